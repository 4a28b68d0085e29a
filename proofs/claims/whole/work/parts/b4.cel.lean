set_option maxRecDepth 100000 in
theorem c_slot {Q : Option am_V → am_M → Prop} {g : am_F} {gs : List am_F} {d Ls : Nat} {I : Im} {l : List (Nat × Nat × Nat)} {c : Nat → Nat} {t : List (Nat × Nat)} {ce sl k : Nat} (hz : Zr I c) (hc : ∀ g, c g = cL t g) (h4 : cL t 4 = k + 4) (h25 : cL t 25 = k + 4) (hl4 : ∀ j, lU l 4 (k + 4) j = false) (hl5 : ∀ j, lU l 5 k j = false) (K : ∀ c' : Nat → Nat, Zr (up3 I 4 (k + 4) 1 (-1)) c' → (∀ g', c' g' = cL ((25, k + 5) :: er 25 ((4, k + 5) :: er 4 t)) g') → am_WP (am_psh g none :: gs) (d + 2) (CM Ls (up3 I 4 (k + 4) 1 (-1)) l c' (ce + 2) (sl + 27)) Q) : am_WP (am_entry mX5_init [.inr (.inr (some (5, k)))] :: g :: gs) (d + 1) (CM Ls I ((5, k, 0) :: l) c ce sl) Q := by
  refine am_go 4 ?_
  show am_WP ((mX5_init, 8, [some (.inr (.inr (some (5, k))))], [.inr (.inr (some (4, c 4))), .inr (.inr (some (5, k)))]) :: g :: gs) (d + 1) (am_new (CM Ls I ((5, k, 0) :: l) c ce sl) 4 0 3) Q
  rw [show c 4 = k + 4 from (hc 4).trans h4]
  refine E_new hz hc h4 (by decide) rfl (fun c hz hc => ?_)
  refine am_go 2 ?_
  have h25' : cL ((4, k + 4 + 1) :: er 4 t) 25 = k + 4 := (cL_er (by decide) t : cL (er 4 t) 25 = cL t 25).trans h25
  refine c_row hz hc h25' (Nat.lt_succ_self _) hl4 (fun c hz hc => ?_)
  refine am_go 1 ?_
  show am_WP ((mX5_init, 15, [some (.inr (.inr (some (5, k))))], []) :: g :: gs) (d + 1) (am_sR (CM Ls (up3 I 4 (k + 4) 1 (-1)) ((5, k, 0) :: l) c (ce + 2) (sl + 27)) 5 k 0 (some (4, k + 4))) Q
  refine E_set (by rfl) ?_
  refine am_go 1 ?_
  show am_WP (am_psh g none :: gs) (d + 2) (CM Ls (up3 I 4 (k + 4) 1 (-1)) ((5, k, 1) :: l) c (ce + 2) (sl + 27)) Q
  rw [CM_drop sr_hi5 hl5]
  exact K c hz hc
set_option maxRecDepth 100000 in
set_option maxHeartbeats 4000000 in
theorem c_cel_0 {Q : Option am_V → am_M → Prop} {g : am_F} {gs : List am_F} {d Ls : Nat} {I : Im} {c : Nat → Nat} {ce sl : Nat} {l : List (Nat × Nat × Nat)} (hQ : ∀ v M P, Q v M → Q v (rR M P)) (hz : Zr I c) (hc : ∀ g, c g = cL [(1, 1), (7, 1)] g) (hl0 : ∀ k j, lU l 0 k j = false) (hl1 : ∀ j, lU l 1 0 j = false) (hl80 : ∀ j, lU l 80 0 j = false) (hl81 : ∀ j, lU l 81 0 j = false) (K : ∀ c' : Nat → Nat, Zr (up3 (up3 (up3 (up3 (up3 (up3 I 18 (0) 0 ((-1000000005))) 18 (0) 1 ((-1000000005))) 18 (0) 2 ((-1000000005))) 1 (0) 5 (50)) 1 (0) 6 (1)) 1 (0) 8 (1)) c' → (∀ g, c' g = cL [(18, 1), (81, 1), (17, 8), (16, 8), (0, 8), (80, 1), (1, 1), (7, 1)] g) → am_WP (am_psh g none :: gs) (d + 1 + 1) (CM Ls (up3 (up3 (up3 (up3 (up3 (up3 I 18 (0) 0 ((-1000000005))) 18 (0) 1 ((-1000000005))) 18 (0) 2 ((-1000000005))) 1 (0) 5 (50)) 1 (0) 6 (1)) 1 (0) 8 (1)) l c' (ce + 27) (sl + 185)) Q) : am_WP (am_entry mX1_init [.inr (.inr (some (1, 0)))] :: g :: gs) (d + 1) (CM Ls I ((1, 0, 0) :: l) c ce sl) Q := by
  show am_WP (am_entry mX1_init [.inr (.inr (some (1, 0)))] :: g :: gs) (d + 1) (CM Ls I ((1, 0, 0) :: l) c (ce + 0) (sl + 0)) Q
  refine am_go 5 ?_
  show am_WP ((mX1_init, 10, [some (.inr (.inr (some (1, 0)))), none], [.inr (.inr (some (80, c 80))), .inr (.inr (some (1, 0)))]) :: g :: gs) (d + 1) (am_new (CM Ls I ((1, 0, 0) :: l) c (ce + 0) (sl + 0)) 80 8 8) Q
  rw [show c 80 = 0 from (hc 80).trans rfl]
  refine E_new hz hc rfl (by decide) rfl (fun c hz hc => ?_)
  have hc : ∀ g, c g = cL [(80, 1), (1, 1), (7, 1)] g := hc
  show am_WP ((mX1_init, 10, [some (.inr (.inr (some (1, 0)))), none], [.inr (.inr (some (80, 0))), .inr (.inr (some (1, 0)))]) :: g :: gs) (d + 1) (CM Ls I ((80, 0, 0) :: (1, 0, 0) :: l) c (ce + 1) (sl + 8)) Q
  refine am_go 1 ?_
  show am_WP ((mX1_init, 13, [some (.inr (.inr (some (1, 0)))), none], []) :: g :: gs) (d + 1) (am_sR (CM Ls I ((80, 0, 0) :: (1, 0, 0) :: l) c (ce + 1) (sl + 8)) 1 (0) 0 (some (80, 0))) Q
  rw [CM_sw (a := (80, 0, 0)) (b := (1, 0, 0)) (by decide)]
  refine E_set (by rfl) ?_
  show am_WP ((mX1_init, 13, [some (.inr (.inr (some (1, 0)))), none], []) :: g :: gs) (d + 1) (CM Ls I ((1, 0, 1) :: (80, 0, 0) :: l) c (ce + 1) (sl + 8)) Q
  refine am_go 9 ?_
  show am_WP ((mX1_init, 29, [some (.inr (.inr (some (1, 0)))), some (.inl (0))], [.inr (.inr (some (0, c 0))), .inl (0), .inr (.inr (some (80, 0)))]) :: g :: gs) (d + 1) (am_new (CM Ls I ((1, 0, 1) :: (80, 0, 0) :: l) c (ce + 1) (sl + 8)) 0 0 8) Q
  rw [show c 0 = 0 from (hc 0).trans rfl]
  refine E_new hz hc rfl (by decide) rfl (fun c hz hc => ?_)
  have hc : ∀ g, c g = cL [(0, 1), (80, 1), (1, 1), (7, 1)] g := hc
  show am_WP ((mX1_init, 29, [some (.inr (.inr (some (1, 0)))), some (.inl (0))], [.inr (.inr (some (0, 0))), .inl (0), .inr (.inr (some (80, 0)))]) :: g :: gs) (d + 1) (CM Ls I ((0, 0, 0) :: (1, 0, 1) :: (80, 0, 0) :: l) c (ce + 2) (sl + 16)) Q
  refine am_go 2 ?_
  refine c_bot hz hc rfl rfl (hl0 0) (fun c hz hc => ?_)
  have hc : ∀ g, c g = cL [(17, 1), (16, 1), (0, 1), (80, 1), (1, 1), (7, 1)] g := hc
  show am_WP ((mX1_init, 33, [some (.inr (.inr (some (1, 0)))), some (.inl (0))], [.inr (.inr (some (0, 0))), .inl (0), .inr (.inr (some (80, 0)))]) :: g :: gs) ((d + 1)) (CM Ls I ((1, 0, 1) :: (80, 0, 0) :: l) c (ce + 4) (sl + 28)) Q
  refine am_go 1 ?_
  show am_WP ((mX1_init, 34, [some (.inr (.inr (some (1, 0)))), some (.inl (0))], []) :: g :: gs) (d + 1) (am_sR (CM Ls I ((1, 0, 1) :: (80, 0, 0) :: l) c (ce + 4) (sl + 28)) 80 (0) 0 (some (0, 0))) Q
  rw [CM_sw (a := (1, 0, 1)) (b := (80, 0, 0)) (by decide)]
  refine E_set (by rfl) ?_
  show am_WP ((mX1_init, 34, [some (.inr (.inr (some (1, 0)))), some (.inl (0))], []) :: g :: gs) (d + 1) (CM Ls I ((80, 0, 1) :: (1, 0, 1) :: l) c (ce + 4) (sl + 28)) Q
  refine am_go 2 ?_
  refine am_go 7 ?_
  show am_WP ((mX1_init, 29, [some (.inr (.inr (some (1, 0)))), some (.inl (1))], [.inr (.inr (some (0, c 0))), .inl (1), .inr (.inr (some (80, 0)))]) :: g :: gs) (d + 1) (am_new (CM Ls I ((80, 0, 1) :: (1, 0, 1) :: l) c (ce + 4) (sl + 28)) 0 0 8) Q
  rw [show c 0 = 1 from (hc 0).trans rfl]
  refine E_new hz hc rfl (by decide) rfl (fun c hz hc => ?_)
  have hc : ∀ g, c g = cL [(0, 2), (17, 1), (16, 1), (80, 1), (1, 1), (7, 1)] g := hc
  show am_WP ((mX1_init, 29, [some (.inr (.inr (some (1, 0)))), some (.inl (1))], [.inr (.inr (some (0, 1))), .inl (1), .inr (.inr (some (80, 0)))]) :: g :: gs) (d + 1) (CM Ls I ((0, 1, 0) :: (80, 0, 1) :: (1, 0, 1) :: l) c (ce + 5) (sl + 36)) Q
  refine am_go 2 ?_
  refine c_bot hz hc rfl rfl (hl0 1) (fun c hz hc => ?_)
  have hc : ∀ g, c g = cL [(17, 2), (16, 2), (0, 2), (80, 1), (1, 1), (7, 1)] g := hc
  show am_WP ((mX1_init, 33, [some (.inr (.inr (some (1, 0)))), some (.inl (1))], [.inr (.inr (some (0, 1))), .inl (1), .inr (.inr (some (80, 0)))]) :: g :: gs) ((d + 1)) (CM Ls I ((80, 0, 1) :: (1, 0, 1) :: l) c (ce + 7) (sl + 48)) Q
  refine am_go 1 ?_
  show am_WP ((mX1_init, 34, [some (.inr (.inr (some (1, 0)))), some (.inl (1))], []) :: g :: gs) (d + 1) (am_sR (CM Ls I ((80, 0, 1) :: (1, 0, 1) :: l) c (ce + 7) (sl + 48)) 80 (0) 1 (some (0, 1))) Q
  refine E_set (by rfl) ?_
  show am_WP ((mX1_init, 34, [some (.inr (.inr (some (1, 0)))), some (.inl (1))], []) :: g :: gs) (d + 1) (CM Ls I ((80, 0, 2) :: (1, 0, 1) :: l) c (ce + 7) (sl + 48)) Q
  refine am_go 2 ?_
  refine am_go 7 ?_
  show am_WP ((mX1_init, 29, [some (.inr (.inr (some (1, 0)))), some (.inl (2))], [.inr (.inr (some (0, c 0))), .inl (2), .inr (.inr (some (80, 0)))]) :: g :: gs) (d + 1) (am_new (CM Ls I ((80, 0, 2) :: (1, 0, 1) :: l) c (ce + 7) (sl + 48)) 0 0 8) Q
  rw [show c 0 = 2 from (hc 0).trans rfl]
  refine E_new hz hc rfl (by decide) rfl (fun c hz hc => ?_)
  have hc : ∀ g, c g = cL [(0, 3), (17, 2), (16, 2), (80, 1), (1, 1), (7, 1)] g := hc
  show am_WP ((mX1_init, 29, [some (.inr (.inr (some (1, 0)))), some (.inl (2))], [.inr (.inr (some (0, 2))), .inl (2), .inr (.inr (some (80, 0)))]) :: g :: gs) (d + 1) (CM Ls I ((0, 2, 0) :: (80, 0, 2) :: (1, 0, 1) :: l) c (ce + 8) (sl + 56)) Q
  refine am_go 2 ?_
  refine c_bot hz hc rfl rfl (hl0 2) (fun c hz hc => ?_)
  have hc : ∀ g, c g = cL [(17, 3), (16, 3), (0, 3), (80, 1), (1, 1), (7, 1)] g := hc
  show am_WP ((mX1_init, 33, [some (.inr (.inr (some (1, 0)))), some (.inl (2))], [.inr (.inr (some (0, 2))), .inl (2), .inr (.inr (some (80, 0)))]) :: g :: gs) ((d + 1)) (CM Ls I ((80, 0, 2) :: (1, 0, 1) :: l) c (ce + 10) (sl + 68)) Q
  refine am_go 1 ?_
  show am_WP ((mX1_init, 34, [some (.inr (.inr (some (1, 0)))), some (.inl (2))], []) :: g :: gs) (d + 1) (am_sR (CM Ls I ((80, 0, 2) :: (1, 0, 1) :: l) c (ce + 10) (sl + 68)) 80 (0) 2 (some (0, 2))) Q
  refine E_set (by rfl) ?_
  show am_WP ((mX1_init, 34, [some (.inr (.inr (some (1, 0)))), some (.inl (2))], []) :: g :: gs) (d + 1) (CM Ls I ((80, 0, 3) :: (1, 0, 1) :: l) c (ce + 10) (sl + 68)) Q
  refine am_go 2 ?_
  refine am_go 7 ?_
  show am_WP ((mX1_init, 29, [some (.inr (.inr (some (1, 0)))), some (.inl (3))], [.inr (.inr (some (0, c 0))), .inl (3), .inr (.inr (some (80, 0)))]) :: g :: gs) (d + 1) (am_new (CM Ls I ((80, 0, 3) :: (1, 0, 1) :: l) c (ce + 10) (sl + 68)) 0 0 8) Q
  rw [show c 0 = 3 from (hc 0).trans rfl]
  refine E_new hz hc rfl (by decide) rfl (fun c hz hc => ?_)
  have hc : ∀ g, c g = cL [(0, 4), (17, 3), (16, 3), (80, 1), (1, 1), (7, 1)] g := hc
  show am_WP ((mX1_init, 29, [some (.inr (.inr (some (1, 0)))), some (.inl (3))], [.inr (.inr (some (0, 3))), .inl (3), .inr (.inr (some (80, 0)))]) :: g :: gs) (d + 1) (CM Ls I ((0, 3, 0) :: (80, 0, 3) :: (1, 0, 1) :: l) c (ce + 11) (sl + 76)) Q
  refine am_go 2 ?_
  refine c_bot hz hc rfl rfl (hl0 3) (fun c hz hc => ?_)
  have hc : ∀ g, c g = cL [(17, 4), (16, 4), (0, 4), (80, 1), (1, 1), (7, 1)] g := hc
  show am_WP ((mX1_init, 33, [some (.inr (.inr (some (1, 0)))), some (.inl (3))], [.inr (.inr (some (0, 3))), .inl (3), .inr (.inr (some (80, 0)))]) :: g :: gs) ((d + 1)) (CM Ls I ((80, 0, 3) :: (1, 0, 1) :: l) c (ce + 13) (sl + 88)) Q
  refine am_go 1 ?_
  show am_WP ((mX1_init, 34, [some (.inr (.inr (some (1, 0)))), some (.inl (3))], []) :: g :: gs) (d + 1) (am_sR (CM Ls I ((80, 0, 3) :: (1, 0, 1) :: l) c (ce + 13) (sl + 88)) 80 (0) 3 (some (0, 3))) Q
  refine E_set (by rfl) ?_
  show am_WP ((mX1_init, 34, [some (.inr (.inr (some (1, 0)))), some (.inl (3))], []) :: g :: gs) (d + 1) (CM Ls I ((80, 0, 4) :: (1, 0, 1) :: l) c (ce + 13) (sl + 88)) Q
  refine am_go 2 ?_
  refine am_go 7 ?_
  show am_WP ((mX1_init, 29, [some (.inr (.inr (some (1, 0)))), some (.inl (4))], [.inr (.inr (some (0, c 0))), .inl (4), .inr (.inr (some (80, 0)))]) :: g :: gs) (d + 1) (am_new (CM Ls I ((80, 0, 4) :: (1, 0, 1) :: l) c (ce + 13) (sl + 88)) 0 0 8) Q
  rw [show c 0 = 4 from (hc 0).trans rfl]
  refine E_new hz hc rfl (by decide) rfl (fun c hz hc => ?_)
  have hc : ∀ g, c g = cL [(0, 5), (17, 4), (16, 4), (80, 1), (1, 1), (7, 1)] g := hc
  show am_WP ((mX1_init, 29, [some (.inr (.inr (some (1, 0)))), some (.inl (4))], [.inr (.inr (some (0, 4))), .inl (4), .inr (.inr (some (80, 0)))]) :: g :: gs) (d + 1) (CM Ls I ((0, 4, 0) :: (80, 0, 4) :: (1, 0, 1) :: l) c (ce + 14) (sl + 96)) Q
  refine am_go 2 ?_
  refine c_bot hz hc rfl rfl (hl0 4) (fun c hz hc => ?_)
  have hc : ∀ g, c g = cL [(17, 5), (16, 5), (0, 5), (80, 1), (1, 1), (7, 1)] g := hc
  show am_WP ((mX1_init, 33, [some (.inr (.inr (some (1, 0)))), some (.inl (4))], [.inr (.inr (some (0, 4))), .inl (4), .inr (.inr (some (80, 0)))]) :: g :: gs) ((d + 1)) (CM Ls I ((80, 0, 4) :: (1, 0, 1) :: l) c (ce + 16) (sl + 108)) Q
  refine am_go 1 ?_
  show am_WP ((mX1_init, 34, [some (.inr (.inr (some (1, 0)))), some (.inl (4))], []) :: g :: gs) (d + 1) (am_sR (CM Ls I ((80, 0, 4) :: (1, 0, 1) :: l) c (ce + 16) (sl + 108)) 80 (0) 4 (some (0, 4))) Q
  refine E_set (by rfl) ?_
  show am_WP ((mX1_init, 34, [some (.inr (.inr (some (1, 0)))), some (.inl (4))], []) :: g :: gs) (d + 1) (CM Ls I ((80, 0, 5) :: (1, 0, 1) :: l) c (ce + 16) (sl + 108)) Q
  refine am_go 2 ?_
  refine am_go 7 ?_
  show am_WP ((mX1_init, 29, [some (.inr (.inr (some (1, 0)))), some (.inl (5))], [.inr (.inr (some (0, c 0))), .inl (5), .inr (.inr (some (80, 0)))]) :: g :: gs) (d + 1) (am_new (CM Ls I ((80, 0, 5) :: (1, 0, 1) :: l) c (ce + 16) (sl + 108)) 0 0 8) Q
  rw [show c 0 = 5 from (hc 0).trans rfl]
  refine E_new hz hc rfl (by decide) rfl (fun c hz hc => ?_)
  have hc : ∀ g, c g = cL [(0, 6), (17, 5), (16, 5), (80, 1), (1, 1), (7, 1)] g := hc
  show am_WP ((mX1_init, 29, [some (.inr (.inr (some (1, 0)))), some (.inl (5))], [.inr (.inr (some (0, 5))), .inl (5), .inr (.inr (some (80, 0)))]) :: g :: gs) (d + 1) (CM Ls I ((0, 5, 0) :: (80, 0, 5) :: (1, 0, 1) :: l) c (ce + 17) (sl + 116)) Q
  refine am_go 2 ?_
  refine c_bot hz hc rfl rfl (hl0 5) (fun c hz hc => ?_)
  have hc : ∀ g, c g = cL [(17, 6), (16, 6), (0, 6), (80, 1), (1, 1), (7, 1)] g := hc
  show am_WP ((mX1_init, 33, [some (.inr (.inr (some (1, 0)))), some (.inl (5))], [.inr (.inr (some (0, 5))), .inl (5), .inr (.inr (some (80, 0)))]) :: g :: gs) ((d + 1)) (CM Ls I ((80, 0, 5) :: (1, 0, 1) :: l) c (ce + 19) (sl + 128)) Q
  refine am_go 1 ?_
  show am_WP ((mX1_init, 34, [some (.inr (.inr (some (1, 0)))), some (.inl (5))], []) :: g :: gs) (d + 1) (am_sR (CM Ls I ((80, 0, 5) :: (1, 0, 1) :: l) c (ce + 19) (sl + 128)) 80 (0) 5 (some (0, 5))) Q
  refine E_set (by rfl) ?_
  show am_WP ((mX1_init, 34, [some (.inr (.inr (some (1, 0)))), some (.inl (5))], []) :: g :: gs) (d + 1) (CM Ls I ((80, 0, 6) :: (1, 0, 1) :: l) c (ce + 19) (sl + 128)) Q
  refine am_go 2 ?_
  refine am_go 7 ?_
  show am_WP ((mX1_init, 29, [some (.inr (.inr (some (1, 0)))), some (.inl (6))], [.inr (.inr (some (0, c 0))), .inl (6), .inr (.inr (some (80, 0)))]) :: g :: gs) (d + 1) (am_new (CM Ls I ((80, 0, 6) :: (1, 0, 1) :: l) c (ce + 19) (sl + 128)) 0 0 8) Q
  rw [show c 0 = 6 from (hc 0).trans rfl]
  refine E_new hz hc rfl (by decide) rfl (fun c hz hc => ?_)
  have hc : ∀ g, c g = cL [(0, 7), (17, 6), (16, 6), (80, 1), (1, 1), (7, 1)] g := hc
  show am_WP ((mX1_init, 29, [some (.inr (.inr (some (1, 0)))), some (.inl (6))], [.inr (.inr (some (0, 6))), .inl (6), .inr (.inr (some (80, 0)))]) :: g :: gs) (d + 1) (CM Ls I ((0, 6, 0) :: (80, 0, 6) :: (1, 0, 1) :: l) c (ce + 20) (sl + 136)) Q
  refine am_go 2 ?_
  refine c_bot hz hc rfl rfl (hl0 6) (fun c hz hc => ?_)
  have hc : ∀ g, c g = cL [(17, 7), (16, 7), (0, 7), (80, 1), (1, 1), (7, 1)] g := hc
  show am_WP ((mX1_init, 33, [some (.inr (.inr (some (1, 0)))), some (.inl (6))], [.inr (.inr (some (0, 6))), .inl (6), .inr (.inr (some (80, 0)))]) :: g :: gs) ((d + 1)) (CM Ls I ((80, 0, 6) :: (1, 0, 1) :: l) c (ce + 22) (sl + 148)) Q
  refine am_go 1 ?_
  show am_WP ((mX1_init, 34, [some (.inr (.inr (some (1, 0)))), some (.inl (6))], []) :: g :: gs) (d + 1) (am_sR (CM Ls I ((80, 0, 6) :: (1, 0, 1) :: l) c (ce + 22) (sl + 148)) 80 (0) 6 (some (0, 6))) Q
  refine E_set (by rfl) ?_
  show am_WP ((mX1_init, 34, [some (.inr (.inr (some (1, 0)))), some (.inl (6))], []) :: g :: gs) (d + 1) (CM Ls I ((80, 0, 7) :: (1, 0, 1) :: l) c (ce + 22) (sl + 148)) Q
  refine am_go 2 ?_
  refine am_go 7 ?_
  show am_WP ((mX1_init, 29, [some (.inr (.inr (some (1, 0)))), some (.inl (7))], [.inr (.inr (some (0, c 0))), .inl (7), .inr (.inr (some (80, 0)))]) :: g :: gs) (d + 1) (am_new (CM Ls I ((80, 0, 7) :: (1, 0, 1) :: l) c (ce + 22) (sl + 148)) 0 0 8) Q
  rw [show c 0 = 7 from (hc 0).trans rfl]
  refine E_new hz hc rfl (by decide) rfl (fun c hz hc => ?_)
  have hc : ∀ g, c g = cL [(0, 8), (17, 7), (16, 7), (80, 1), (1, 1), (7, 1)] g := hc
  show am_WP ((mX1_init, 29, [some (.inr (.inr (some (1, 0)))), some (.inl (7))], [.inr (.inr (some (0, 7))), .inl (7), .inr (.inr (some (80, 0)))]) :: g :: gs) (d + 1) (CM Ls I ((0, 7, 0) :: (80, 0, 7) :: (1, 0, 1) :: l) c (ce + 23) (sl + 156)) Q
  refine am_go 2 ?_
  refine c_bot hz hc rfl rfl (hl0 7) (fun c hz hc => ?_)
  have hc : ∀ g, c g = cL [(17, 8), (16, 8), (0, 8), (80, 1), (1, 1), (7, 1)] g := hc
  show am_WP ((mX1_init, 33, [some (.inr (.inr (some (1, 0)))), some (.inl (7))], [.inr (.inr (some (0, 7))), .inl (7), .inr (.inr (some (80, 0)))]) :: g :: gs) ((d + 1)) (CM Ls I ((80, 0, 7) :: (1, 0, 1) :: l) c (ce + 25) (sl + 168)) Q
  refine am_go 1 ?_
  show am_WP ((mX1_init, 34, [some (.inr (.inr (some (1, 0)))), some (.inl (7))], []) :: g :: gs) (d + 1) (am_sR (CM Ls I ((80, 0, 7) :: (1, 0, 1) :: l) c (ce + 25) (sl + 168)) 80 (0) 7 (some (0, 7))) Q
  refine E_set (by rfl) ?_
  show am_WP ((mX1_init, 34, [some (.inr (.inr (some (1, 0)))), some (.inl (7))], []) :: g :: gs) (d + 1) (CM Ls I ((80, 0, 8) :: (1, 0, 1) :: l) c (ce + 25) (sl + 168)) Q
  refine am_go 2 ?_
  refine am_go 3 ?_
  refine WP_drop hQ (by decide) (Nat.le_refl _) (hl80) ?_
  show am_WP ((mX1_init, 40, [some (.inr (.inr (some (1, 0)))), some (.inl (8))], []) :: g :: gs) (d + 1) (CM Ls I ((1, 0, 1) :: l) c (ce + 25) (sl + 168)) Q
  refine am_go 3 ?_
  show am_WP ((mX1_init, 46, [some (.inr (.inr (some (1, 0)))), some (.inl (8))], [.inr (.inr (some (81, c 81))), .inr (.inr (some (1, 0)))]) :: g :: gs) (d + 1) (am_new (CM Ls I ((1, 0, 1) :: l) c (ce + 25) (sl + 168)) 81 14 14) Q
  rw [show c 81 = 0 from (hc 81).trans rfl]
  refine E_new hz hc rfl (by decide) rfl (fun c hz hc => ?_)
  have hc : ∀ g, c g = cL [(81, 1), (17, 8), (16, 8), (0, 8), (80, 1), (1, 1), (7, 1)] g := hc
  show am_WP ((mX1_init, 46, [some (.inr (.inr (some (1, 0)))), some (.inl (8))], [.inr (.inr (some (81, 0))), .inr (.inr (some (1, 0)))]) :: g :: gs) (d + 1) (CM Ls I ((81, 0, 0) :: (1, 0, 1) :: l) c (ce + 26) (sl + 182)) Q
  rw [CM_drop (g := 81) (k := 0) (f := 0) (l := ((1, 0, 1) :: l)) (fun _ _ => rfl) hl81]
  refine am_go 1 ?_
  show am_WP ((mX1_init, 49, [some (.inr (.inr (some (1, 0)))), some (.inl (8))], []) :: g :: gs) (d + 1) (am_sR (CM Ls I ((1, 0, 1) :: l) c (ce + 26) (sl + 182)) 1 (0) 1 (some (81, 0))) Q
  refine E_set (by rfl) ?_
  show am_WP ((mX1_init, 49, [some (.inr (.inr (some (1, 0)))), some (.inl (8))], []) :: g :: gs) (d + 1) (CM Ls I ((1, 0, 2) :: l) c (ce + 26) (sl + 182)) Q
  refine am_go 3 ?_
  show am_WP ((mX1_init, 53, [some (.inr (.inr (some (1, 0)))), some (.inl (8))], [.inr (.inr (some (18, c 18))), .inr (.inr (some (1, 0)))]) :: g :: gs) (d + 1) (am_new (CM Ls I ((1, 0, 2) :: l) c (ce + 26) (sl + 182)) 18 3 3) Q
  rw [show c 18 = 0 from (hc 18).trans rfl]
  refine E_newI hz hc rfl (by decide) (by decide) rfl (fun c hz hc => ?_)
  have hc : ∀ g, c g = cL [(18, 1), (81, 1), (17, 8), (16, 8), (0, 8), (80, 1), (1, 1), (7, 1)] g := hc
  show am_WP ((mX1_init, 53, [some (.inr (.inr (some (1, 0)))), some (.inl (8))], [.inr (.inr (some (18, 0))), .inr (.inr (some (1, 0)))]) :: g :: gs) (d + 1) (CM Ls I ((1, 0, 2) :: l) c (ce + 27) (sl + 185)) Q
  refine am_go 1 ?_
  show am_WP ((mX1_init, 56, [some (.inr (.inr (some (1, 0)))), some (.inl (8))], []) :: g :: gs) (d + 1) (am_sR (CM Ls I ((1, 0, 2) :: l) c (ce + 27) (sl + 185)) 1 (0) 2 (some (18, 0))) Q
  refine E_set (by rfl) ?_
  show am_WP ((mX1_init, 56, [some (.inr (.inr (some (1, 0)))), some (.inl (8))], []) :: g :: gs) (d + 1) (CM Ls I ((1, 0, 3) :: l) c (ce + 27) (sl + 185)) Q
  refine am_go 10 ?_
  show am_WP ((mX1_init, 71, [some (.inr (.inr (some (1, 0)))), some (.inl (0))], []) :: g :: gs) (d + 1) (CM Ls (up3 I 18 (0) 0 ((-1000000005))) ((1, 0, 3) :: l) c (ce + 27) (sl + 185)) Q
  have hz := Zr_w (g := 18) (k := 0) (j := 0) (v := (-1000000005)) hz (by rw [hc]; decide)
  refine am_go 2 ?_
  refine am_go 8 ?_
  show am_WP ((mX1_init, 71, [some (.inr (.inr (some (1, 0)))), some (.inl (1))], []) :: g :: gs) (d + 1) (CM Ls (up3 (up3 I 18 (0) 0 ((-1000000005))) 18 (0) 1 ((-1000000005))) ((1, 0, 3) :: l) c (ce + 27) (sl + 185)) Q
  have hz := Zr_w (g := 18) (k := 0) (j := 1) (v := (-1000000005)) hz (by rw [hc]; decide)
  refine am_go 2 ?_
  refine am_go 8 ?_
  show am_WP ((mX1_init, 71, [some (.inr (.inr (some (1, 0)))), some (.inl (2))], []) :: g :: gs) (d + 1) (CM Ls (up3 (up3 (up3 I 18 (0) 0 ((-1000000005))) 18 (0) 1 ((-1000000005))) 18 (0) 2 ((-1000000005))) ((1, 0, 3) :: l) c (ce + 27) (sl + 185)) Q
  have hz := Zr_w (g := 18) (k := 0) (j := 2) (v := (-1000000005)) hz (by rw [hc]; decide)
  refine am_go 2 ?_
  refine am_go 6 ?_
  show am_WP ((mX1_init, 83, [some (.inr (.inr (some (1, 0)))), some (.inl (3))], []) :: g :: gs) (d + 1) (CM Ls (up3 (up3 (up3 (up3 I 18 (0) 0 ((-1000000005))) 18 (0) 1 ((-1000000005))) 18 (0) 2 ((-1000000005))) 1 (0) 5 (50)) ((1, 0, 3) :: l) c (ce + 27) (sl + 185)) Q
  have hz := Zr_w (g := 1) (k := 0) (j := 5) (v := 50) hz (by rw [hc]; decide)
  refine am_go 3 ?_
  show am_WP ((mX1_init, 88, [some (.inr (.inr (some (1, 0)))), some (.inl (3))], []) :: g :: gs) (d + 1) (CM Ls (up3 (up3 (up3 (up3 (up3 I 18 (0) 0 ((-1000000005))) 18 (0) 1 ((-1000000005))) 18 (0) 2 ((-1000000005))) 1 (0) 5 (50)) 1 (0) 6 (1)) ((1, 0, 3) :: l) c (ce + 27) (sl + 185)) Q
  have hz := Zr_w (g := 1) (k := 0) (j := 6) (v := 1) hz (by rw [hc]; decide)
  refine am_go 3 ?_
  show am_WP ((mX1_init, 93, [some (.inr (.inr (some (1, 0)))), some (.inl (3))], []) :: g :: gs) (d + 1) (CM Ls (up3 (up3 (up3 (up3 (up3 (up3 I 18 (0) 0 ((-1000000005))) 18 (0) 1 ((-1000000005))) 18 (0) 2 ((-1000000005))) 1 (0) 5 (50)) 1 (0) 6 (1)) 1 (0) 8 (1)) ((1, 0, 3) :: l) c (ce + 27) (sl + 185)) Q
  have hz := Zr_w (g := 1) (k := 0) (j := 8) (v := 1) hz (by rw [hc]; decide)
  refine am_go 1 ?_
  show am_WP (am_psh g none :: gs) (d + 1 + 1) (CM Ls (up3 (up3 (up3 (up3 (up3 (up3 I 18 (0) 0 ((-1000000005))) 18 (0) 1 ((-1000000005))) 18 (0) 2 ((-1000000005))) 1 (0) 5 (50)) 1 (0) 6 (1)) 1 (0) 8 (1)) ((1, 0, 3) :: l) c (ce + 27) (sl + 185)) Q
  rw [CM_drop sr_hi1 hl1]
  exact K c hz hc
set_option maxRecDepth 100000 in
set_option maxHeartbeats 4000000 in
theorem c_cel_1 {Q : Option am_V → am_M → Prop} {g : am_F} {gs : List am_F} {d Ls : Nat} {I : Im} {c : Nat → Nat} {ce sl : Nat} {l : List (Nat × Nat × Nat)} (hQ : ∀ v M P, Q v M → Q v (rR M P)) (hz : Zr I c) (hc : ∀ g, c g = cL [(1, 2), (18, 1), (81, 1), (17, 8), (16, 8), (0, 8), (80, 1), (7, 1)] g) (hl0 : ∀ k j, lU l 0 k j = false) (hl1 : ∀ j, lU l 1 1 j = false) (hl80 : ∀ j, lU l 80 1 j = false) (hl81 : ∀ j, lU l 81 1 j = false) (K : ∀ c' : Nat → Nat, Zr (up3 (up3 (up3 (up3 (up3 (up3 I 18 (1) 0 ((-1000000005))) 18 (1) 1 ((-1000000005))) 18 (1) 2 ((-1000000005))) 1 (1) 5 (50)) 1 (1) 6 (1)) 1 (1) 8 (1)) c' → (∀ g, c' g = cL [(18, 2), (81, 2), (17, 16), (16, 16), (0, 16), (80, 2), (1, 2), (7, 1)] g) → am_WP (am_psh g none :: gs) (d + 1 + 1) (CM Ls (up3 (up3 (up3 (up3 (up3 (up3 I 18 (1) 0 ((-1000000005))) 18 (1) 1 ((-1000000005))) 18 (1) 2 ((-1000000005))) 1 (1) 5 (50)) 1 (1) 6 (1)) 1 (1) 8 (1)) l c' (ce + 27) (sl + 185)) Q) : am_WP (am_entry mX1_init [.inr (.inr (some (1, 1)))] :: g :: gs) (d + 1) (CM Ls I ((1, 1, 0) :: l) c ce sl) Q := by
  show am_WP (am_entry mX1_init [.inr (.inr (some (1, 1)))] :: g :: gs) (d + 1) (CM Ls I ((1, 1, 0) :: l) c (ce + 0) (sl + 0)) Q
  refine am_go 5 ?_
  show am_WP ((mX1_init, 10, [some (.inr (.inr (some (1, 1)))), none], [.inr (.inr (some (80, c 80))), .inr (.inr (some (1, 1)))]) :: g :: gs) (d + 1) (am_new (CM Ls I ((1, 1, 0) :: l) c (ce + 0) (sl + 0)) 80 8 8) Q
  rw [show c 80 = 1 from (hc 80).trans rfl]
  refine E_new hz hc rfl (by decide) rfl (fun c hz hc => ?_)
  have hc : ∀ g, c g = cL [(80, 2), (1, 2), (18, 1), (81, 1), (17, 8), (16, 8), (0, 8), (7, 1)] g := hc
  show am_WP ((mX1_init, 10, [some (.inr (.inr (some (1, 1)))), none], [.inr (.inr (some (80, 1))), .inr (.inr (some (1, 1)))]) :: g :: gs) (d + 1) (CM Ls I ((80, 1, 0) :: (1, 1, 0) :: l) c (ce + 1) (sl + 8)) Q
  refine am_go 1 ?_
  show am_WP ((mX1_init, 13, [some (.inr (.inr (some (1, 1)))), none], []) :: g :: gs) (d + 1) (am_sR (CM Ls I ((80, 1, 0) :: (1, 1, 0) :: l) c (ce + 1) (sl + 8)) 1 (1) 0 (some (80, 1))) Q
  rw [CM_sw (a := (80, 1, 0)) (b := (1, 1, 0)) (by decide)]
  refine E_set (by rfl) ?_
  show am_WP ((mX1_init, 13, [some (.inr (.inr (some (1, 1)))), none], []) :: g :: gs) (d + 1) (CM Ls I ((1, 1, 1) :: (80, 1, 0) :: l) c (ce + 1) (sl + 8)) Q
  refine am_go 9 ?_
  show am_WP ((mX1_init, 29, [some (.inr (.inr (some (1, 1)))), some (.inl (0))], [.inr (.inr (some (0, c 0))), .inl (0), .inr (.inr (some (80, 1)))]) :: g :: gs) (d + 1) (am_new (CM Ls I ((1, 1, 1) :: (80, 1, 0) :: l) c (ce + 1) (sl + 8)) 0 0 8) Q
  rw [show c 0 = 8 from (hc 0).trans rfl]
  refine E_new hz hc rfl (by decide) rfl (fun c hz hc => ?_)
  have hc : ∀ g, c g = cL [(0, 9), (80, 2), (1, 2), (18, 1), (81, 1), (17, 8), (16, 8), (7, 1)] g := hc
  show am_WP ((mX1_init, 29, [some (.inr (.inr (some (1, 1)))), some (.inl (0))], [.inr (.inr (some (0, 8))), .inl (0), .inr (.inr (some (80, 1)))]) :: g :: gs) (d + 1) (CM Ls I ((0, 8, 0) :: (1, 1, 1) :: (80, 1, 0) :: l) c (ce + 2) (sl + 16)) Q
  refine am_go 2 ?_
  refine c_bot hz hc rfl rfl (hl0 8) (fun c hz hc => ?_)
  have hc : ∀ g, c g = cL [(17, 9), (16, 9), (0, 9), (80, 2), (1, 2), (18, 1), (81, 1), (7, 1)] g := hc
  show am_WP ((mX1_init, 33, [some (.inr (.inr (some (1, 1)))), some (.inl (0))], [.inr (.inr (some (0, 8))), .inl (0), .inr (.inr (some (80, 1)))]) :: g :: gs) ((d + 1)) (CM Ls I ((1, 1, 1) :: (80, 1, 0) :: l) c (ce + 4) (sl + 28)) Q
  refine am_go 1 ?_
  show am_WP ((mX1_init, 34, [some (.inr (.inr (some (1, 1)))), some (.inl (0))], []) :: g :: gs) (d + 1) (am_sR (CM Ls I ((1, 1, 1) :: (80, 1, 0) :: l) c (ce + 4) (sl + 28)) 80 (1) 0 (some (0, 8))) Q
  rw [CM_sw (a := (1, 1, 1)) (b := (80, 1, 0)) (by decide)]
  refine E_set (by rfl) ?_
  show am_WP ((mX1_init, 34, [some (.inr (.inr (some (1, 1)))), some (.inl (0))], []) :: g :: gs) (d + 1) (CM Ls I ((80, 1, 1) :: (1, 1, 1) :: l) c (ce + 4) (sl + 28)) Q
  refine am_go 2 ?_
  refine am_go 7 ?_
  show am_WP ((mX1_init, 29, [some (.inr (.inr (some (1, 1)))), some (.inl (1))], [.inr (.inr (some (0, c 0))), .inl (1), .inr (.inr (some (80, 1)))]) :: g :: gs) (d + 1) (am_new (CM Ls I ((80, 1, 1) :: (1, 1, 1) :: l) c (ce + 4) (sl + 28)) 0 0 8) Q
  rw [show c 0 = 9 from (hc 0).trans rfl]
  refine E_new hz hc rfl (by decide) rfl (fun c hz hc => ?_)
  have hc : ∀ g, c g = cL [(0, 10), (17, 9), (16, 9), (80, 2), (1, 2), (18, 1), (81, 1), (7, 1)] g := hc
  show am_WP ((mX1_init, 29, [some (.inr (.inr (some (1, 1)))), some (.inl (1))], [.inr (.inr (some (0, 9))), .inl (1), .inr (.inr (some (80, 1)))]) :: g :: gs) (d + 1) (CM Ls I ((0, 9, 0) :: (80, 1, 1) :: (1, 1, 1) :: l) c (ce + 5) (sl + 36)) Q
  refine am_go 2 ?_
  refine c_bot hz hc rfl rfl (hl0 9) (fun c hz hc => ?_)
  have hc : ∀ g, c g = cL [(17, 10), (16, 10), (0, 10), (80, 2), (1, 2), (18, 1), (81, 1), (7, 1)] g := hc
  show am_WP ((mX1_init, 33, [some (.inr (.inr (some (1, 1)))), some (.inl (1))], [.inr (.inr (some (0, 9))), .inl (1), .inr (.inr (some (80, 1)))]) :: g :: gs) ((d + 1)) (CM Ls I ((80, 1, 1) :: (1, 1, 1) :: l) c (ce + 7) (sl + 48)) Q
  refine am_go 1 ?_
  show am_WP ((mX1_init, 34, [some (.inr (.inr (some (1, 1)))), some (.inl (1))], []) :: g :: gs) (d + 1) (am_sR (CM Ls I ((80, 1, 1) :: (1, 1, 1) :: l) c (ce + 7) (sl + 48)) 80 (1) 1 (some (0, 9))) Q
  refine E_set (by rfl) ?_
  show am_WP ((mX1_init, 34, [some (.inr (.inr (some (1, 1)))), some (.inl (1))], []) :: g :: gs) (d + 1) (CM Ls I ((80, 1, 2) :: (1, 1, 1) :: l) c (ce + 7) (sl + 48)) Q
  refine am_go 2 ?_
  refine am_go 7 ?_
  show am_WP ((mX1_init, 29, [some (.inr (.inr (some (1, 1)))), some (.inl (2))], [.inr (.inr (some (0, c 0))), .inl (2), .inr (.inr (some (80, 1)))]) :: g :: gs) (d + 1) (am_new (CM Ls I ((80, 1, 2) :: (1, 1, 1) :: l) c (ce + 7) (sl + 48)) 0 0 8) Q
  rw [show c 0 = 10 from (hc 0).trans rfl]
  refine E_new hz hc rfl (by decide) rfl (fun c hz hc => ?_)
  have hc : ∀ g, c g = cL [(0, 11), (17, 10), (16, 10), (80, 2), (1, 2), (18, 1), (81, 1), (7, 1)] g := hc
  show am_WP ((mX1_init, 29, [some (.inr (.inr (some (1, 1)))), some (.inl (2))], [.inr (.inr (some (0, 10))), .inl (2), .inr (.inr (some (80, 1)))]) :: g :: gs) (d + 1) (CM Ls I ((0, 10, 0) :: (80, 1, 2) :: (1, 1, 1) :: l) c (ce + 8) (sl + 56)) Q
  refine am_go 2 ?_
  refine c_bot hz hc rfl rfl (hl0 10) (fun c hz hc => ?_)
  have hc : ∀ g, c g = cL [(17, 11), (16, 11), (0, 11), (80, 2), (1, 2), (18, 1), (81, 1), (7, 1)] g := hc
  show am_WP ((mX1_init, 33, [some (.inr (.inr (some (1, 1)))), some (.inl (2))], [.inr (.inr (some (0, 10))), .inl (2), .inr (.inr (some (80, 1)))]) :: g :: gs) ((d + 1)) (CM Ls I ((80, 1, 2) :: (1, 1, 1) :: l) c (ce + 10) (sl + 68)) Q
  refine am_go 1 ?_
  show am_WP ((mX1_init, 34, [some (.inr (.inr (some (1, 1)))), some (.inl (2))], []) :: g :: gs) (d + 1) (am_sR (CM Ls I ((80, 1, 2) :: (1, 1, 1) :: l) c (ce + 10) (sl + 68)) 80 (1) 2 (some (0, 10))) Q
  refine E_set (by rfl) ?_
  show am_WP ((mX1_init, 34, [some (.inr (.inr (some (1, 1)))), some (.inl (2))], []) :: g :: gs) (d + 1) (CM Ls I ((80, 1, 3) :: (1, 1, 1) :: l) c (ce + 10) (sl + 68)) Q
  refine am_go 2 ?_
  refine am_go 7 ?_
  show am_WP ((mX1_init, 29, [some (.inr (.inr (some (1, 1)))), some (.inl (3))], [.inr (.inr (some (0, c 0))), .inl (3), .inr (.inr (some (80, 1)))]) :: g :: gs) (d + 1) (am_new (CM Ls I ((80, 1, 3) :: (1, 1, 1) :: l) c (ce + 10) (sl + 68)) 0 0 8) Q
  rw [show c 0 = 11 from (hc 0).trans rfl]
  refine E_new hz hc rfl (by decide) rfl (fun c hz hc => ?_)
  have hc : ∀ g, c g = cL [(0, 12), (17, 11), (16, 11), (80, 2), (1, 2), (18, 1), (81, 1), (7, 1)] g := hc
  show am_WP ((mX1_init, 29, [some (.inr (.inr (some (1, 1)))), some (.inl (3))], [.inr (.inr (some (0, 11))), .inl (3), .inr (.inr (some (80, 1)))]) :: g :: gs) (d + 1) (CM Ls I ((0, 11, 0) :: (80, 1, 3) :: (1, 1, 1) :: l) c (ce + 11) (sl + 76)) Q
  refine am_go 2 ?_
  refine c_bot hz hc rfl rfl (hl0 11) (fun c hz hc => ?_)
  have hc : ∀ g, c g = cL [(17, 12), (16, 12), (0, 12), (80, 2), (1, 2), (18, 1), (81, 1), (7, 1)] g := hc
  show am_WP ((mX1_init, 33, [some (.inr (.inr (some (1, 1)))), some (.inl (3))], [.inr (.inr (some (0, 11))), .inl (3), .inr (.inr (some (80, 1)))]) :: g :: gs) ((d + 1)) (CM Ls I ((80, 1, 3) :: (1, 1, 1) :: l) c (ce + 13) (sl + 88)) Q
  refine am_go 1 ?_
  show am_WP ((mX1_init, 34, [some (.inr (.inr (some (1, 1)))), some (.inl (3))], []) :: g :: gs) (d + 1) (am_sR (CM Ls I ((80, 1, 3) :: (1, 1, 1) :: l) c (ce + 13) (sl + 88)) 80 (1) 3 (some (0, 11))) Q
  refine E_set (by rfl) ?_
  show am_WP ((mX1_init, 34, [some (.inr (.inr (some (1, 1)))), some (.inl (3))], []) :: g :: gs) (d + 1) (CM Ls I ((80, 1, 4) :: (1, 1, 1) :: l) c (ce + 13) (sl + 88)) Q
  refine am_go 2 ?_
  refine am_go 7 ?_
  show am_WP ((mX1_init, 29, [some (.inr (.inr (some (1, 1)))), some (.inl (4))], [.inr (.inr (some (0, c 0))), .inl (4), .inr (.inr (some (80, 1)))]) :: g :: gs) (d + 1) (am_new (CM Ls I ((80, 1, 4) :: (1, 1, 1) :: l) c (ce + 13) (sl + 88)) 0 0 8) Q
  rw [show c 0 = 12 from (hc 0).trans rfl]
  refine E_new hz hc rfl (by decide) rfl (fun c hz hc => ?_)
  have hc : ∀ g, c g = cL [(0, 13), (17, 12), (16, 12), (80, 2), (1, 2), (18, 1), (81, 1), (7, 1)] g := hc
  show am_WP ((mX1_init, 29, [some (.inr (.inr (some (1, 1)))), some (.inl (4))], [.inr (.inr (some (0, 12))), .inl (4), .inr (.inr (some (80, 1)))]) :: g :: gs) (d + 1) (CM Ls I ((0, 12, 0) :: (80, 1, 4) :: (1, 1, 1) :: l) c (ce + 14) (sl + 96)) Q
  refine am_go 2 ?_
  refine c_bot hz hc rfl rfl (hl0 12) (fun c hz hc => ?_)
  have hc : ∀ g, c g = cL [(17, 13), (16, 13), (0, 13), (80, 2), (1, 2), (18, 1), (81, 1), (7, 1)] g := hc
  show am_WP ((mX1_init, 33, [some (.inr (.inr (some (1, 1)))), some (.inl (4))], [.inr (.inr (some (0, 12))), .inl (4), .inr (.inr (some (80, 1)))]) :: g :: gs) ((d + 1)) (CM Ls I ((80, 1, 4) :: (1, 1, 1) :: l) c (ce + 16) (sl + 108)) Q
  refine am_go 1 ?_
  show am_WP ((mX1_init, 34, [some (.inr (.inr (some (1, 1)))), some (.inl (4))], []) :: g :: gs) (d + 1) (am_sR (CM Ls I ((80, 1, 4) :: (1, 1, 1) :: l) c (ce + 16) (sl + 108)) 80 (1) 4 (some (0, 12))) Q
  refine E_set (by rfl) ?_
  show am_WP ((mX1_init, 34, [some (.inr (.inr (some (1, 1)))), some (.inl (4))], []) :: g :: gs) (d + 1) (CM Ls I ((80, 1, 5) :: (1, 1, 1) :: l) c (ce + 16) (sl + 108)) Q
  refine am_go 2 ?_
  refine am_go 7 ?_
  show am_WP ((mX1_init, 29, [some (.inr (.inr (some (1, 1)))), some (.inl (5))], [.inr (.inr (some (0, c 0))), .inl (5), .inr (.inr (some (80, 1)))]) :: g :: gs) (d + 1) (am_new (CM Ls I ((80, 1, 5) :: (1, 1, 1) :: l) c (ce + 16) (sl + 108)) 0 0 8) Q
  rw [show c 0 = 13 from (hc 0).trans rfl]
  refine E_new hz hc rfl (by decide) rfl (fun c hz hc => ?_)
  have hc : ∀ g, c g = cL [(0, 14), (17, 13), (16, 13), (80, 2), (1, 2), (18, 1), (81, 1), (7, 1)] g := hc
  show am_WP ((mX1_init, 29, [some (.inr (.inr (some (1, 1)))), some (.inl (5))], [.inr (.inr (some (0, 13))), .inl (5), .inr (.inr (some (80, 1)))]) :: g :: gs) (d + 1) (CM Ls I ((0, 13, 0) :: (80, 1, 5) :: (1, 1, 1) :: l) c (ce + 17) (sl + 116)) Q
  refine am_go 2 ?_
  refine c_bot hz hc rfl rfl (hl0 13) (fun c hz hc => ?_)
  have hc : ∀ g, c g = cL [(17, 14), (16, 14), (0, 14), (80, 2), (1, 2), (18, 1), (81, 1), (7, 1)] g := hc
  show am_WP ((mX1_init, 33, [some (.inr (.inr (some (1, 1)))), some (.inl (5))], [.inr (.inr (some (0, 13))), .inl (5), .inr (.inr (some (80, 1)))]) :: g :: gs) ((d + 1)) (CM Ls I ((80, 1, 5) :: (1, 1, 1) :: l) c (ce + 19) (sl + 128)) Q
  refine am_go 1 ?_
  show am_WP ((mX1_init, 34, [some (.inr (.inr (some (1, 1)))), some (.inl (5))], []) :: g :: gs) (d + 1) (am_sR (CM Ls I ((80, 1, 5) :: (1, 1, 1) :: l) c (ce + 19) (sl + 128)) 80 (1) 5 (some (0, 13))) Q
  refine E_set (by rfl) ?_
  show am_WP ((mX1_init, 34, [some (.inr (.inr (some (1, 1)))), some (.inl (5))], []) :: g :: gs) (d + 1) (CM Ls I ((80, 1, 6) :: (1, 1, 1) :: l) c (ce + 19) (sl + 128)) Q
  refine am_go 2 ?_
  refine am_go 7 ?_
  show am_WP ((mX1_init, 29, [some (.inr (.inr (some (1, 1)))), some (.inl (6))], [.inr (.inr (some (0, c 0))), .inl (6), .inr (.inr (some (80, 1)))]) :: g :: gs) (d + 1) (am_new (CM Ls I ((80, 1, 6) :: (1, 1, 1) :: l) c (ce + 19) (sl + 128)) 0 0 8) Q
  rw [show c 0 = 14 from (hc 0).trans rfl]
  refine E_new hz hc rfl (by decide) rfl (fun c hz hc => ?_)
  have hc : ∀ g, c g = cL [(0, 15), (17, 14), (16, 14), (80, 2), (1, 2), (18, 1), (81, 1), (7, 1)] g := hc
  show am_WP ((mX1_init, 29, [some (.inr (.inr (some (1, 1)))), some (.inl (6))], [.inr (.inr (some (0, 14))), .inl (6), .inr (.inr (some (80, 1)))]) :: g :: gs) (d + 1) (CM Ls I ((0, 14, 0) :: (80, 1, 6) :: (1, 1, 1) :: l) c (ce + 20) (sl + 136)) Q
  refine am_go 2 ?_
  refine c_bot hz hc rfl rfl (hl0 14) (fun c hz hc => ?_)
  have hc : ∀ g, c g = cL [(17, 15), (16, 15), (0, 15), (80, 2), (1, 2), (18, 1), (81, 1), (7, 1)] g := hc
  show am_WP ((mX1_init, 33, [some (.inr (.inr (some (1, 1)))), some (.inl (6))], [.inr (.inr (some (0, 14))), .inl (6), .inr (.inr (some (80, 1)))]) :: g :: gs) ((d + 1)) (CM Ls I ((80, 1, 6) :: (1, 1, 1) :: l) c (ce + 22) (sl + 148)) Q
  refine am_go 1 ?_
  show am_WP ((mX1_init, 34, [some (.inr (.inr (some (1, 1)))), some (.inl (6))], []) :: g :: gs) (d + 1) (am_sR (CM Ls I ((80, 1, 6) :: (1, 1, 1) :: l) c (ce + 22) (sl + 148)) 80 (1) 6 (some (0, 14))) Q
  refine E_set (by rfl) ?_
  show am_WP ((mX1_init, 34, [some (.inr (.inr (some (1, 1)))), some (.inl (6))], []) :: g :: gs) (d + 1) (CM Ls I ((80, 1, 7) :: (1, 1, 1) :: l) c (ce + 22) (sl + 148)) Q
  refine am_go 2 ?_
  refine am_go 7 ?_
  show am_WP ((mX1_init, 29, [some (.inr (.inr (some (1, 1)))), some (.inl (7))], [.inr (.inr (some (0, c 0))), .inl (7), .inr (.inr (some (80, 1)))]) :: g :: gs) (d + 1) (am_new (CM Ls I ((80, 1, 7) :: (1, 1, 1) :: l) c (ce + 22) (sl + 148)) 0 0 8) Q
  rw [show c 0 = 15 from (hc 0).trans rfl]
  refine E_new hz hc rfl (by decide) rfl (fun c hz hc => ?_)
  have hc : ∀ g, c g = cL [(0, 16), (17, 15), (16, 15), (80, 2), (1, 2), (18, 1), (81, 1), (7, 1)] g := hc
  show am_WP ((mX1_init, 29, [some (.inr (.inr (some (1, 1)))), some (.inl (7))], [.inr (.inr (some (0, 15))), .inl (7), .inr (.inr (some (80, 1)))]) :: g :: gs) (d + 1) (CM Ls I ((0, 15, 0) :: (80, 1, 7) :: (1, 1, 1) :: l) c (ce + 23) (sl + 156)) Q
  refine am_go 2 ?_
  refine c_bot hz hc rfl rfl (hl0 15) (fun c hz hc => ?_)
  have hc : ∀ g, c g = cL [(17, 16), (16, 16), (0, 16), (80, 2), (1, 2), (18, 1), (81, 1), (7, 1)] g := hc
  show am_WP ((mX1_init, 33, [some (.inr (.inr (some (1, 1)))), some (.inl (7))], [.inr (.inr (some (0, 15))), .inl (7), .inr (.inr (some (80, 1)))]) :: g :: gs) ((d + 1)) (CM Ls I ((80, 1, 7) :: (1, 1, 1) :: l) c (ce + 25) (sl + 168)) Q
  refine am_go 1 ?_
  show am_WP ((mX1_init, 34, [some (.inr (.inr (some (1, 1)))), some (.inl (7))], []) :: g :: gs) (d + 1) (am_sR (CM Ls I ((80, 1, 7) :: (1, 1, 1) :: l) c (ce + 25) (sl + 168)) 80 (1) 7 (some (0, 15))) Q
  refine E_set (by rfl) ?_
  show am_WP ((mX1_init, 34, [some (.inr (.inr (some (1, 1)))), some (.inl (7))], []) :: g :: gs) (d + 1) (CM Ls I ((80, 1, 8) :: (1, 1, 1) :: l) c (ce + 25) (sl + 168)) Q
  refine am_go 2 ?_
  refine am_go 3 ?_
  refine WP_drop hQ (by decide) (Nat.le_refl _) (hl80) ?_
  show am_WP ((mX1_init, 40, [some (.inr (.inr (some (1, 1)))), some (.inl (8))], []) :: g :: gs) (d + 1) (CM Ls I ((1, 1, 1) :: l) c (ce + 25) (sl + 168)) Q
  refine am_go 3 ?_
  show am_WP ((mX1_init, 46, [some (.inr (.inr (some (1, 1)))), some (.inl (8))], [.inr (.inr (some (81, c 81))), .inr (.inr (some (1, 1)))]) :: g :: gs) (d + 1) (am_new (CM Ls I ((1, 1, 1) :: l) c (ce + 25) (sl + 168)) 81 14 14) Q
  rw [show c 81 = 1 from (hc 81).trans rfl]
  refine E_new hz hc rfl (by decide) rfl (fun c hz hc => ?_)
  have hc : ∀ g, c g = cL [(81, 2), (17, 16), (16, 16), (0, 16), (80, 2), (1, 2), (18, 1), (7, 1)] g := hc
  show am_WP ((mX1_init, 46, [some (.inr (.inr (some (1, 1)))), some (.inl (8))], [.inr (.inr (some (81, 1))), .inr (.inr (some (1, 1)))]) :: g :: gs) (d + 1) (CM Ls I ((81, 1, 0) :: (1, 1, 1) :: l) c (ce + 26) (sl + 182)) Q
  rw [CM_drop (g := 81) (k := 1) (f := 0) (l := ((1, 1, 1) :: l)) (fun _ _ => rfl) hl81]
  refine am_go 1 ?_
  show am_WP ((mX1_init, 49, [some (.inr (.inr (some (1, 1)))), some (.inl (8))], []) :: g :: gs) (d + 1) (am_sR (CM Ls I ((1, 1, 1) :: l) c (ce + 26) (sl + 182)) 1 (1) 1 (some (81, 1))) Q
  refine E_set (by rfl) ?_
  show am_WP ((mX1_init, 49, [some (.inr (.inr (some (1, 1)))), some (.inl (8))], []) :: g :: gs) (d + 1) (CM Ls I ((1, 1, 2) :: l) c (ce + 26) (sl + 182)) Q
  refine am_go 3 ?_
  show am_WP ((mX1_init, 53, [some (.inr (.inr (some (1, 1)))), some (.inl (8))], [.inr (.inr (some (18, c 18))), .inr (.inr (some (1, 1)))]) :: g :: gs) (d + 1) (am_new (CM Ls I ((1, 1, 2) :: l) c (ce + 26) (sl + 182)) 18 3 3) Q
  rw [show c 18 = 1 from (hc 18).trans rfl]
  refine E_newI hz hc rfl (by decide) (by decide) rfl (fun c hz hc => ?_)
  have hc : ∀ g, c g = cL [(18, 2), (81, 2), (17, 16), (16, 16), (0, 16), (80, 2), (1, 2), (7, 1)] g := hc
  show am_WP ((mX1_init, 53, [some (.inr (.inr (some (1, 1)))), some (.inl (8))], [.inr (.inr (some (18, 1))), .inr (.inr (some (1, 1)))]) :: g :: gs) (d + 1) (CM Ls I ((1, 1, 2) :: l) c (ce + 27) (sl + 185)) Q
  refine am_go 1 ?_
  show am_WP ((mX1_init, 56, [some (.inr (.inr (some (1, 1)))), some (.inl (8))], []) :: g :: gs) (d + 1) (am_sR (CM Ls I ((1, 1, 2) :: l) c (ce + 27) (sl + 185)) 1 (1) 2 (some (18, 1))) Q
  refine E_set (by rfl) ?_
  show am_WP ((mX1_init, 56, [some (.inr (.inr (some (1, 1)))), some (.inl (8))], []) :: g :: gs) (d + 1) (CM Ls I ((1, 1, 3) :: l) c (ce + 27) (sl + 185)) Q
  refine am_go 10 ?_
  show am_WP ((mX1_init, 71, [some (.inr (.inr (some (1, 1)))), some (.inl (0))], []) :: g :: gs) (d + 1) (CM Ls (up3 I 18 (1) 0 ((-1000000005))) ((1, 1, 3) :: l) c (ce + 27) (sl + 185)) Q
  have hz := Zr_w (g := 18) (k := 1) (j := 0) (v := (-1000000005)) hz (by rw [hc]; decide)
  refine am_go 2 ?_
  refine am_go 8 ?_
  show am_WP ((mX1_init, 71, [some (.inr (.inr (some (1, 1)))), some (.inl (1))], []) :: g :: gs) (d + 1) (CM Ls (up3 (up3 I 18 (1) 0 ((-1000000005))) 18 (1) 1 ((-1000000005))) ((1, 1, 3) :: l) c (ce + 27) (sl + 185)) Q
  have hz := Zr_w (g := 18) (k := 1) (j := 1) (v := (-1000000005)) hz (by rw [hc]; decide)
  refine am_go 2 ?_
  refine am_go 8 ?_
  show am_WP ((mX1_init, 71, [some (.inr (.inr (some (1, 1)))), some (.inl (2))], []) :: g :: gs) (d + 1) (CM Ls (up3 (up3 (up3 I 18 (1) 0 ((-1000000005))) 18 (1) 1 ((-1000000005))) 18 (1) 2 ((-1000000005))) ((1, 1, 3) :: l) c (ce + 27) (sl + 185)) Q
  have hz := Zr_w (g := 18) (k := 1) (j := 2) (v := (-1000000005)) hz (by rw [hc]; decide)
  refine am_go 2 ?_
  refine am_go 6 ?_
  show am_WP ((mX1_init, 83, [some (.inr (.inr (some (1, 1)))), some (.inl (3))], []) :: g :: gs) (d + 1) (CM Ls (up3 (up3 (up3 (up3 I 18 (1) 0 ((-1000000005))) 18 (1) 1 ((-1000000005))) 18 (1) 2 ((-1000000005))) 1 (1) 5 (50)) ((1, 1, 3) :: l) c (ce + 27) (sl + 185)) Q
  have hz := Zr_w (g := 1) (k := 1) (j := 5) (v := 50) hz (by rw [hc]; decide)
  refine am_go 3 ?_
  show am_WP ((mX1_init, 88, [some (.inr (.inr (some (1, 1)))), some (.inl (3))], []) :: g :: gs) (d + 1) (CM Ls (up3 (up3 (up3 (up3 (up3 I 18 (1) 0 ((-1000000005))) 18 (1) 1 ((-1000000005))) 18 (1) 2 ((-1000000005))) 1 (1) 5 (50)) 1 (1) 6 (1)) ((1, 1, 3) :: l) c (ce + 27) (sl + 185)) Q
  have hz := Zr_w (g := 1) (k := 1) (j := 6) (v := 1) hz (by rw [hc]; decide)
  refine am_go 3 ?_
  show am_WP ((mX1_init, 93, [some (.inr (.inr (some (1, 1)))), some (.inl (3))], []) :: g :: gs) (d + 1) (CM Ls (up3 (up3 (up3 (up3 (up3 (up3 I 18 (1) 0 ((-1000000005))) 18 (1) 1 ((-1000000005))) 18 (1) 2 ((-1000000005))) 1 (1) 5 (50)) 1 (1) 6 (1)) 1 (1) 8 (1)) ((1, 1, 3) :: l) c (ce + 27) (sl + 185)) Q
  have hz := Zr_w (g := 1) (k := 1) (j := 8) (v := 1) hz (by rw [hc]; decide)
  refine am_go 1 ?_
  show am_WP (am_psh g none :: gs) (d + 1 + 1) (CM Ls (up3 (up3 (up3 (up3 (up3 (up3 I 18 (1) 0 ((-1000000005))) 18 (1) 1 ((-1000000005))) 18 (1) 2 ((-1000000005))) 1 (1) 5 (50)) 1 (1) 6 (1)) 1 (1) 8 (1)) ((1, 1, 3) :: l) c (ce + 27) (sl + 185)) Q
  rw [CM_drop sr_hi1 hl1]
  exact K c hz hc
set_option maxRecDepth 100000 in
set_option maxHeartbeats 4000000 in
theorem c_cel_2 {Q : Option am_V → am_M → Prop} {g : am_F} {gs : List am_F} {d Ls : Nat} {I : Im} {c : Nat → Nat} {ce sl : Nat} {l : List (Nat × Nat × Nat)} (hQ : ∀ v M P, Q v M → Q v (rR M P)) (hz : Zr I c) (hc : ∀ g, c g = cL [(1, 3), (18, 2), (81, 2), (17, 16), (16, 16), (0, 16), (80, 2), (7, 1)] g) (hl0 : ∀ k j, lU l 0 k j = false) (hl1 : ∀ j, lU l 1 2 j = false) (hl80 : ∀ j, lU l 80 2 j = false) (hl81 : ∀ j, lU l 81 2 j = false) (K : ∀ c' : Nat → Nat, Zr (up3 (up3 (up3 (up3 (up3 (up3 I 18 (2) 0 ((-1000000005))) 18 (2) 1 ((-1000000005))) 18 (2) 2 ((-1000000005))) 1 (2) 5 (50)) 1 (2) 6 (1)) 1 (2) 8 (1)) c' → (∀ g, c' g = cL [(18, 3), (81, 3), (17, 24), (16, 24), (0, 24), (80, 3), (1, 3), (7, 1)] g) → am_WP (am_psh g none :: gs) (d + 1 + 1) (CM Ls (up3 (up3 (up3 (up3 (up3 (up3 I 18 (2) 0 ((-1000000005))) 18 (2) 1 ((-1000000005))) 18 (2) 2 ((-1000000005))) 1 (2) 5 (50)) 1 (2) 6 (1)) 1 (2) 8 (1)) l c' (ce + 27) (sl + 185)) Q) : am_WP (am_entry mX1_init [.inr (.inr (some (1, 2)))] :: g :: gs) (d + 1) (CM Ls I ((1, 2, 0) :: l) c ce sl) Q := by
  show am_WP (am_entry mX1_init [.inr (.inr (some (1, 2)))] :: g :: gs) (d + 1) (CM Ls I ((1, 2, 0) :: l) c (ce + 0) (sl + 0)) Q
  refine am_go 5 ?_
  show am_WP ((mX1_init, 10, [some (.inr (.inr (some (1, 2)))), none], [.inr (.inr (some (80, c 80))), .inr (.inr (some (1, 2)))]) :: g :: gs) (d + 1) (am_new (CM Ls I ((1, 2, 0) :: l) c (ce + 0) (sl + 0)) 80 8 8) Q
  rw [show c 80 = 2 from (hc 80).trans rfl]
  refine E_new hz hc rfl (by decide) rfl (fun c hz hc => ?_)
  have hc : ∀ g, c g = cL [(80, 3), (1, 3), (18, 2), (81, 2), (17, 16), (16, 16), (0, 16), (7, 1)] g := hc
  show am_WP ((mX1_init, 10, [some (.inr (.inr (some (1, 2)))), none], [.inr (.inr (some (80, 2))), .inr (.inr (some (1, 2)))]) :: g :: gs) (d + 1) (CM Ls I ((80, 2, 0) :: (1, 2, 0) :: l) c (ce + 1) (sl + 8)) Q
  refine am_go 1 ?_
  show am_WP ((mX1_init, 13, [some (.inr (.inr (some (1, 2)))), none], []) :: g :: gs) (d + 1) (am_sR (CM Ls I ((80, 2, 0) :: (1, 2, 0) :: l) c (ce + 1) (sl + 8)) 1 (2) 0 (some (80, 2))) Q
  rw [CM_sw (a := (80, 2, 0)) (b := (1, 2, 0)) (by decide)]
  refine E_set (by rfl) ?_
  show am_WP ((mX1_init, 13, [some (.inr (.inr (some (1, 2)))), none], []) :: g :: gs) (d + 1) (CM Ls I ((1, 2, 1) :: (80, 2, 0) :: l) c (ce + 1) (sl + 8)) Q
  refine am_go 9 ?_
  show am_WP ((mX1_init, 29, [some (.inr (.inr (some (1, 2)))), some (.inl (0))], [.inr (.inr (some (0, c 0))), .inl (0), .inr (.inr (some (80, 2)))]) :: g :: gs) (d + 1) (am_new (CM Ls I ((1, 2, 1) :: (80, 2, 0) :: l) c (ce + 1) (sl + 8)) 0 0 8) Q
  rw [show c 0 = 16 from (hc 0).trans rfl]
  refine E_new hz hc rfl (by decide) rfl (fun c hz hc => ?_)
  have hc : ∀ g, c g = cL [(0, 17), (80, 3), (1, 3), (18, 2), (81, 2), (17, 16), (16, 16), (7, 1)] g := hc
  show am_WP ((mX1_init, 29, [some (.inr (.inr (some (1, 2)))), some (.inl (0))], [.inr (.inr (some (0, 16))), .inl (0), .inr (.inr (some (80, 2)))]) :: g :: gs) (d + 1) (CM Ls I ((0, 16, 0) :: (1, 2, 1) :: (80, 2, 0) :: l) c (ce + 2) (sl + 16)) Q
  refine am_go 2 ?_
  refine c_bot hz hc rfl rfl (hl0 16) (fun c hz hc => ?_)
  have hc : ∀ g, c g = cL [(17, 17), (16, 17), (0, 17), (80, 3), (1, 3), (18, 2), (81, 2), (7, 1)] g := hc
  show am_WP ((mX1_init, 33, [some (.inr (.inr (some (1, 2)))), some (.inl (0))], [.inr (.inr (some (0, 16))), .inl (0), .inr (.inr (some (80, 2)))]) :: g :: gs) ((d + 1)) (CM Ls I ((1, 2, 1) :: (80, 2, 0) :: l) c (ce + 4) (sl + 28)) Q
  refine am_go 1 ?_
  show am_WP ((mX1_init, 34, [some (.inr (.inr (some (1, 2)))), some (.inl (0))], []) :: g :: gs) (d + 1) (am_sR (CM Ls I ((1, 2, 1) :: (80, 2, 0) :: l) c (ce + 4) (sl + 28)) 80 (2) 0 (some (0, 16))) Q
  rw [CM_sw (a := (1, 2, 1)) (b := (80, 2, 0)) (by decide)]
  refine E_set (by rfl) ?_
  show am_WP ((mX1_init, 34, [some (.inr (.inr (some (1, 2)))), some (.inl (0))], []) :: g :: gs) (d + 1) (CM Ls I ((80, 2, 1) :: (1, 2, 1) :: l) c (ce + 4) (sl + 28)) Q
  refine am_go 2 ?_
  refine am_go 7 ?_
  show am_WP ((mX1_init, 29, [some (.inr (.inr (some (1, 2)))), some (.inl (1))], [.inr (.inr (some (0, c 0))), .inl (1), .inr (.inr (some (80, 2)))]) :: g :: gs) (d + 1) (am_new (CM Ls I ((80, 2, 1) :: (1, 2, 1) :: l) c (ce + 4) (sl + 28)) 0 0 8) Q
  rw [show c 0 = 17 from (hc 0).trans rfl]
  refine E_new hz hc rfl (by decide) rfl (fun c hz hc => ?_)
  have hc : ∀ g, c g = cL [(0, 18), (17, 17), (16, 17), (80, 3), (1, 3), (18, 2), (81, 2), (7, 1)] g := hc
  show am_WP ((mX1_init, 29, [some (.inr (.inr (some (1, 2)))), some (.inl (1))], [.inr (.inr (some (0, 17))), .inl (1), .inr (.inr (some (80, 2)))]) :: g :: gs) (d + 1) (CM Ls I ((0, 17, 0) :: (80, 2, 1) :: (1, 2, 1) :: l) c (ce + 5) (sl + 36)) Q
  refine am_go 2 ?_
  refine c_bot hz hc rfl rfl (hl0 17) (fun c hz hc => ?_)
  have hc : ∀ g, c g = cL [(17, 18), (16, 18), (0, 18), (80, 3), (1, 3), (18, 2), (81, 2), (7, 1)] g := hc
  show am_WP ((mX1_init, 33, [some (.inr (.inr (some (1, 2)))), some (.inl (1))], [.inr (.inr (some (0, 17))), .inl (1), .inr (.inr (some (80, 2)))]) :: g :: gs) ((d + 1)) (CM Ls I ((80, 2, 1) :: (1, 2, 1) :: l) c (ce + 7) (sl + 48)) Q
  refine am_go 1 ?_
  show am_WP ((mX1_init, 34, [some (.inr (.inr (some (1, 2)))), some (.inl (1))], []) :: g :: gs) (d + 1) (am_sR (CM Ls I ((80, 2, 1) :: (1, 2, 1) :: l) c (ce + 7) (sl + 48)) 80 (2) 1 (some (0, 17))) Q
  refine E_set (by rfl) ?_
  show am_WP ((mX1_init, 34, [some (.inr (.inr (some (1, 2)))), some (.inl (1))], []) :: g :: gs) (d + 1) (CM Ls I ((80, 2, 2) :: (1, 2, 1) :: l) c (ce + 7) (sl + 48)) Q
  refine am_go 2 ?_
  refine am_go 7 ?_
  show am_WP ((mX1_init, 29, [some (.inr (.inr (some (1, 2)))), some (.inl (2))], [.inr (.inr (some (0, c 0))), .inl (2), .inr (.inr (some (80, 2)))]) :: g :: gs) (d + 1) (am_new (CM Ls I ((80, 2, 2) :: (1, 2, 1) :: l) c (ce + 7) (sl + 48)) 0 0 8) Q
  rw [show c 0 = 18 from (hc 0).trans rfl]
  refine E_new hz hc rfl (by decide) rfl (fun c hz hc => ?_)
  have hc : ∀ g, c g = cL [(0, 19), (17, 18), (16, 18), (80, 3), (1, 3), (18, 2), (81, 2), (7, 1)] g := hc
  show am_WP ((mX1_init, 29, [some (.inr (.inr (some (1, 2)))), some (.inl (2))], [.inr (.inr (some (0, 18))), .inl (2), .inr (.inr (some (80, 2)))]) :: g :: gs) (d + 1) (CM Ls I ((0, 18, 0) :: (80, 2, 2) :: (1, 2, 1) :: l) c (ce + 8) (sl + 56)) Q
  refine am_go 2 ?_
  refine c_bot hz hc rfl rfl (hl0 18) (fun c hz hc => ?_)
  have hc : ∀ g, c g = cL [(17, 19), (16, 19), (0, 19), (80, 3), (1, 3), (18, 2), (81, 2), (7, 1)] g := hc
  show am_WP ((mX1_init, 33, [some (.inr (.inr (some (1, 2)))), some (.inl (2))], [.inr (.inr (some (0, 18))), .inl (2), .inr (.inr (some (80, 2)))]) :: g :: gs) ((d + 1)) (CM Ls I ((80, 2, 2) :: (1, 2, 1) :: l) c (ce + 10) (sl + 68)) Q
  refine am_go 1 ?_
  show am_WP ((mX1_init, 34, [some (.inr (.inr (some (1, 2)))), some (.inl (2))], []) :: g :: gs) (d + 1) (am_sR (CM Ls I ((80, 2, 2) :: (1, 2, 1) :: l) c (ce + 10) (sl + 68)) 80 (2) 2 (some (0, 18))) Q
  refine E_set (by rfl) ?_
  show am_WP ((mX1_init, 34, [some (.inr (.inr (some (1, 2)))), some (.inl (2))], []) :: g :: gs) (d + 1) (CM Ls I ((80, 2, 3) :: (1, 2, 1) :: l) c (ce + 10) (sl + 68)) Q
  refine am_go 2 ?_
  refine am_go 7 ?_
  show am_WP ((mX1_init, 29, [some (.inr (.inr (some (1, 2)))), some (.inl (3))], [.inr (.inr (some (0, c 0))), .inl (3), .inr (.inr (some (80, 2)))]) :: g :: gs) (d + 1) (am_new (CM Ls I ((80, 2, 3) :: (1, 2, 1) :: l) c (ce + 10) (sl + 68)) 0 0 8) Q
  rw [show c 0 = 19 from (hc 0).trans rfl]
  refine E_new hz hc rfl (by decide) rfl (fun c hz hc => ?_)
  have hc : ∀ g, c g = cL [(0, 20), (17, 19), (16, 19), (80, 3), (1, 3), (18, 2), (81, 2), (7, 1)] g := hc
  show am_WP ((mX1_init, 29, [some (.inr (.inr (some (1, 2)))), some (.inl (3))], [.inr (.inr (some (0, 19))), .inl (3), .inr (.inr (some (80, 2)))]) :: g :: gs) (d + 1) (CM Ls I ((0, 19, 0) :: (80, 2, 3) :: (1, 2, 1) :: l) c (ce + 11) (sl + 76)) Q
  refine am_go 2 ?_
  refine c_bot hz hc rfl rfl (hl0 19) (fun c hz hc => ?_)
  have hc : ∀ g, c g = cL [(17, 20), (16, 20), (0, 20), (80, 3), (1, 3), (18, 2), (81, 2), (7, 1)] g := hc
  show am_WP ((mX1_init, 33, [some (.inr (.inr (some (1, 2)))), some (.inl (3))], [.inr (.inr (some (0, 19))), .inl (3), .inr (.inr (some (80, 2)))]) :: g :: gs) ((d + 1)) (CM Ls I ((80, 2, 3) :: (1, 2, 1) :: l) c (ce + 13) (sl + 88)) Q
  refine am_go 1 ?_
  show am_WP ((mX1_init, 34, [some (.inr (.inr (some (1, 2)))), some (.inl (3))], []) :: g :: gs) (d + 1) (am_sR (CM Ls I ((80, 2, 3) :: (1, 2, 1) :: l) c (ce + 13) (sl + 88)) 80 (2) 3 (some (0, 19))) Q
  refine E_set (by rfl) ?_
  show am_WP ((mX1_init, 34, [some (.inr (.inr (some (1, 2)))), some (.inl (3))], []) :: g :: gs) (d + 1) (CM Ls I ((80, 2, 4) :: (1, 2, 1) :: l) c (ce + 13) (sl + 88)) Q
  refine am_go 2 ?_
  refine am_go 7 ?_
  show am_WP ((mX1_init, 29, [some (.inr (.inr (some (1, 2)))), some (.inl (4))], [.inr (.inr (some (0, c 0))), .inl (4), .inr (.inr (some (80, 2)))]) :: g :: gs) (d + 1) (am_new (CM Ls I ((80, 2, 4) :: (1, 2, 1) :: l) c (ce + 13) (sl + 88)) 0 0 8) Q
  rw [show c 0 = 20 from (hc 0).trans rfl]
  refine E_new hz hc rfl (by decide) rfl (fun c hz hc => ?_)
  have hc : ∀ g, c g = cL [(0, 21), (17, 20), (16, 20), (80, 3), (1, 3), (18, 2), (81, 2), (7, 1)] g := hc
  show am_WP ((mX1_init, 29, [some (.inr (.inr (some (1, 2)))), some (.inl (4))], [.inr (.inr (some (0, 20))), .inl (4), .inr (.inr (some (80, 2)))]) :: g :: gs) (d + 1) (CM Ls I ((0, 20, 0) :: (80, 2, 4) :: (1, 2, 1) :: l) c (ce + 14) (sl + 96)) Q
  refine am_go 2 ?_
  refine c_bot hz hc rfl rfl (hl0 20) (fun c hz hc => ?_)
  have hc : ∀ g, c g = cL [(17, 21), (16, 21), (0, 21), (80, 3), (1, 3), (18, 2), (81, 2), (7, 1)] g := hc
  show am_WP ((mX1_init, 33, [some (.inr (.inr (some (1, 2)))), some (.inl (4))], [.inr (.inr (some (0, 20))), .inl (4), .inr (.inr (some (80, 2)))]) :: g :: gs) ((d + 1)) (CM Ls I ((80, 2, 4) :: (1, 2, 1) :: l) c (ce + 16) (sl + 108)) Q
  refine am_go 1 ?_
  show am_WP ((mX1_init, 34, [some (.inr (.inr (some (1, 2)))), some (.inl (4))], []) :: g :: gs) (d + 1) (am_sR (CM Ls I ((80, 2, 4) :: (1, 2, 1) :: l) c (ce + 16) (sl + 108)) 80 (2) 4 (some (0, 20))) Q
  refine E_set (by rfl) ?_
  show am_WP ((mX1_init, 34, [some (.inr (.inr (some (1, 2)))), some (.inl (4))], []) :: g :: gs) (d + 1) (CM Ls I ((80, 2, 5) :: (1, 2, 1) :: l) c (ce + 16) (sl + 108)) Q
  refine am_go 2 ?_
  refine am_go 7 ?_
  show am_WP ((mX1_init, 29, [some (.inr (.inr (some (1, 2)))), some (.inl (5))], [.inr (.inr (some (0, c 0))), .inl (5), .inr (.inr (some (80, 2)))]) :: g :: gs) (d + 1) (am_new (CM Ls I ((80, 2, 5) :: (1, 2, 1) :: l) c (ce + 16) (sl + 108)) 0 0 8) Q
  rw [show c 0 = 21 from (hc 0).trans rfl]
  refine E_new hz hc rfl (by decide) rfl (fun c hz hc => ?_)
  have hc : ∀ g, c g = cL [(0, 22), (17, 21), (16, 21), (80, 3), (1, 3), (18, 2), (81, 2), (7, 1)] g := hc
  show am_WP ((mX1_init, 29, [some (.inr (.inr (some (1, 2)))), some (.inl (5))], [.inr (.inr (some (0, 21))), .inl (5), .inr (.inr (some (80, 2)))]) :: g :: gs) (d + 1) (CM Ls I ((0, 21, 0) :: (80, 2, 5) :: (1, 2, 1) :: l) c (ce + 17) (sl + 116)) Q
  refine am_go 2 ?_
  refine c_bot hz hc rfl rfl (hl0 21) (fun c hz hc => ?_)
  have hc : ∀ g, c g = cL [(17, 22), (16, 22), (0, 22), (80, 3), (1, 3), (18, 2), (81, 2), (7, 1)] g := hc
  show am_WP ((mX1_init, 33, [some (.inr (.inr (some (1, 2)))), some (.inl (5))], [.inr (.inr (some (0, 21))), .inl (5), .inr (.inr (some (80, 2)))]) :: g :: gs) ((d + 1)) (CM Ls I ((80, 2, 5) :: (1, 2, 1) :: l) c (ce + 19) (sl + 128)) Q
  refine am_go 1 ?_
  show am_WP ((mX1_init, 34, [some (.inr (.inr (some (1, 2)))), some (.inl (5))], []) :: g :: gs) (d + 1) (am_sR (CM Ls I ((80, 2, 5) :: (1, 2, 1) :: l) c (ce + 19) (sl + 128)) 80 (2) 5 (some (0, 21))) Q
  refine E_set (by rfl) ?_
  show am_WP ((mX1_init, 34, [some (.inr (.inr (some (1, 2)))), some (.inl (5))], []) :: g :: gs) (d + 1) (CM Ls I ((80, 2, 6) :: (1, 2, 1) :: l) c (ce + 19) (sl + 128)) Q
  refine am_go 2 ?_
  refine am_go 7 ?_
  show am_WP ((mX1_init, 29, [some (.inr (.inr (some (1, 2)))), some (.inl (6))], [.inr (.inr (some (0, c 0))), .inl (6), .inr (.inr (some (80, 2)))]) :: g :: gs) (d + 1) (am_new (CM Ls I ((80, 2, 6) :: (1, 2, 1) :: l) c (ce + 19) (sl + 128)) 0 0 8) Q
  rw [show c 0 = 22 from (hc 0).trans rfl]
  refine E_new hz hc rfl (by decide) rfl (fun c hz hc => ?_)
  have hc : ∀ g, c g = cL [(0, 23), (17, 22), (16, 22), (80, 3), (1, 3), (18, 2), (81, 2), (7, 1)] g := hc
  show am_WP ((mX1_init, 29, [some (.inr (.inr (some (1, 2)))), some (.inl (6))], [.inr (.inr (some (0, 22))), .inl (6), .inr (.inr (some (80, 2)))]) :: g :: gs) (d + 1) (CM Ls I ((0, 22, 0) :: (80, 2, 6) :: (1, 2, 1) :: l) c (ce + 20) (sl + 136)) Q
  refine am_go 2 ?_
  refine c_bot hz hc rfl rfl (hl0 22) (fun c hz hc => ?_)
  have hc : ∀ g, c g = cL [(17, 23), (16, 23), (0, 23), (80, 3), (1, 3), (18, 2), (81, 2), (7, 1)] g := hc
  show am_WP ((mX1_init, 33, [some (.inr (.inr (some (1, 2)))), some (.inl (6))], [.inr (.inr (some (0, 22))), .inl (6), .inr (.inr (some (80, 2)))]) :: g :: gs) ((d + 1)) (CM Ls I ((80, 2, 6) :: (1, 2, 1) :: l) c (ce + 22) (sl + 148)) Q
  refine am_go 1 ?_
  show am_WP ((mX1_init, 34, [some (.inr (.inr (some (1, 2)))), some (.inl (6))], []) :: g :: gs) (d + 1) (am_sR (CM Ls I ((80, 2, 6) :: (1, 2, 1) :: l) c (ce + 22) (sl + 148)) 80 (2) 6 (some (0, 22))) Q
  refine E_set (by rfl) ?_
  show am_WP ((mX1_init, 34, [some (.inr (.inr (some (1, 2)))), some (.inl (6))], []) :: g :: gs) (d + 1) (CM Ls I ((80, 2, 7) :: (1, 2, 1) :: l) c (ce + 22) (sl + 148)) Q
  refine am_go 2 ?_
  refine am_go 7 ?_
  show am_WP ((mX1_init, 29, [some (.inr (.inr (some (1, 2)))), some (.inl (7))], [.inr (.inr (some (0, c 0))), .inl (7), .inr (.inr (some (80, 2)))]) :: g :: gs) (d + 1) (am_new (CM Ls I ((80, 2, 7) :: (1, 2, 1) :: l) c (ce + 22) (sl + 148)) 0 0 8) Q
  rw [show c 0 = 23 from (hc 0).trans rfl]
  refine E_new hz hc rfl (by decide) rfl (fun c hz hc => ?_)
  have hc : ∀ g, c g = cL [(0, 24), (17, 23), (16, 23), (80, 3), (1, 3), (18, 2), (81, 2), (7, 1)] g := hc
  show am_WP ((mX1_init, 29, [some (.inr (.inr (some (1, 2)))), some (.inl (7))], [.inr (.inr (some (0, 23))), .inl (7), .inr (.inr (some (80, 2)))]) :: g :: gs) (d + 1) (CM Ls I ((0, 23, 0) :: (80, 2, 7) :: (1, 2, 1) :: l) c (ce + 23) (sl + 156)) Q
  refine am_go 2 ?_
  refine c_bot hz hc rfl rfl (hl0 23) (fun c hz hc => ?_)
  have hc : ∀ g, c g = cL [(17, 24), (16, 24), (0, 24), (80, 3), (1, 3), (18, 2), (81, 2), (7, 1)] g := hc
  show am_WP ((mX1_init, 33, [some (.inr (.inr (some (1, 2)))), some (.inl (7))], [.inr (.inr (some (0, 23))), .inl (7), .inr (.inr (some (80, 2)))]) :: g :: gs) ((d + 1)) (CM Ls I ((80, 2, 7) :: (1, 2, 1) :: l) c (ce + 25) (sl + 168)) Q
  refine am_go 1 ?_
  show am_WP ((mX1_init, 34, [some (.inr (.inr (some (1, 2)))), some (.inl (7))], []) :: g :: gs) (d + 1) (am_sR (CM Ls I ((80, 2, 7) :: (1, 2, 1) :: l) c (ce + 25) (sl + 168)) 80 (2) 7 (some (0, 23))) Q
  refine E_set (by rfl) ?_
  show am_WP ((mX1_init, 34, [some (.inr (.inr (some (1, 2)))), some (.inl (7))], []) :: g :: gs) (d + 1) (CM Ls I ((80, 2, 8) :: (1, 2, 1) :: l) c (ce + 25) (sl + 168)) Q
  refine am_go 2 ?_
  refine am_go 3 ?_
  refine WP_drop hQ (by decide) (Nat.le_refl _) (hl80) ?_
  show am_WP ((mX1_init, 40, [some (.inr (.inr (some (1, 2)))), some (.inl (8))], []) :: g :: gs) (d + 1) (CM Ls I ((1, 2, 1) :: l) c (ce + 25) (sl + 168)) Q
  refine am_go 3 ?_
  show am_WP ((mX1_init, 46, [some (.inr (.inr (some (1, 2)))), some (.inl (8))], [.inr (.inr (some (81, c 81))), .inr (.inr (some (1, 2)))]) :: g :: gs) (d + 1) (am_new (CM Ls I ((1, 2, 1) :: l) c (ce + 25) (sl + 168)) 81 14 14) Q
  rw [show c 81 = 2 from (hc 81).trans rfl]
  refine E_new hz hc rfl (by decide) rfl (fun c hz hc => ?_)
  have hc : ∀ g, c g = cL [(81, 3), (17, 24), (16, 24), (0, 24), (80, 3), (1, 3), (18, 2), (7, 1)] g := hc
  show am_WP ((mX1_init, 46, [some (.inr (.inr (some (1, 2)))), some (.inl (8))], [.inr (.inr (some (81, 2))), .inr (.inr (some (1, 2)))]) :: g :: gs) (d + 1) (CM Ls I ((81, 2, 0) :: (1, 2, 1) :: l) c (ce + 26) (sl + 182)) Q
  rw [CM_drop (g := 81) (k := 2) (f := 0) (l := ((1, 2, 1) :: l)) (fun _ _ => rfl) hl81]
  refine am_go 1 ?_
  show am_WP ((mX1_init, 49, [some (.inr (.inr (some (1, 2)))), some (.inl (8))], []) :: g :: gs) (d + 1) (am_sR (CM Ls I ((1, 2, 1) :: l) c (ce + 26) (sl + 182)) 1 (2) 1 (some (81, 2))) Q
  refine E_set (by rfl) ?_
  show am_WP ((mX1_init, 49, [some (.inr (.inr (some (1, 2)))), some (.inl (8))], []) :: g :: gs) (d + 1) (CM Ls I ((1, 2, 2) :: l) c (ce + 26) (sl + 182)) Q
  refine am_go 3 ?_
  show am_WP ((mX1_init, 53, [some (.inr (.inr (some (1, 2)))), some (.inl (8))], [.inr (.inr (some (18, c 18))), .inr (.inr (some (1, 2)))]) :: g :: gs) (d + 1) (am_new (CM Ls I ((1, 2, 2) :: l) c (ce + 26) (sl + 182)) 18 3 3) Q
  rw [show c 18 = 2 from (hc 18).trans rfl]
  refine E_newI hz hc rfl (by decide) (by decide) rfl (fun c hz hc => ?_)
  have hc : ∀ g, c g = cL [(18, 3), (81, 3), (17, 24), (16, 24), (0, 24), (80, 3), (1, 3), (7, 1)] g := hc
  show am_WP ((mX1_init, 53, [some (.inr (.inr (some (1, 2)))), some (.inl (8))], [.inr (.inr (some (18, 2))), .inr (.inr (some (1, 2)))]) :: g :: gs) (d + 1) (CM Ls I ((1, 2, 2) :: l) c (ce + 27) (sl + 185)) Q
  refine am_go 1 ?_
  show am_WP ((mX1_init, 56, [some (.inr (.inr (some (1, 2)))), some (.inl (8))], []) :: g :: gs) (d + 1) (am_sR (CM Ls I ((1, 2, 2) :: l) c (ce + 27) (sl + 185)) 1 (2) 2 (some (18, 2))) Q
  refine E_set (by rfl) ?_
  show am_WP ((mX1_init, 56, [some (.inr (.inr (some (1, 2)))), some (.inl (8))], []) :: g :: gs) (d + 1) (CM Ls I ((1, 2, 3) :: l) c (ce + 27) (sl + 185)) Q
  refine am_go 10 ?_
  show am_WP ((mX1_init, 71, [some (.inr (.inr (some (1, 2)))), some (.inl (0))], []) :: g :: gs) (d + 1) (CM Ls (up3 I 18 (2) 0 ((-1000000005))) ((1, 2, 3) :: l) c (ce + 27) (sl + 185)) Q
  have hz := Zr_w (g := 18) (k := 2) (j := 0) (v := (-1000000005)) hz (by rw [hc]; decide)
  refine am_go 2 ?_
  refine am_go 8 ?_
  show am_WP ((mX1_init, 71, [some (.inr (.inr (some (1, 2)))), some (.inl (1))], []) :: g :: gs) (d + 1) (CM Ls (up3 (up3 I 18 (2) 0 ((-1000000005))) 18 (2) 1 ((-1000000005))) ((1, 2, 3) :: l) c (ce + 27) (sl + 185)) Q
  have hz := Zr_w (g := 18) (k := 2) (j := 1) (v := (-1000000005)) hz (by rw [hc]; decide)
  refine am_go 2 ?_
  refine am_go 8 ?_
  show am_WP ((mX1_init, 71, [some (.inr (.inr (some (1, 2)))), some (.inl (2))], []) :: g :: gs) (d + 1) (CM Ls (up3 (up3 (up3 I 18 (2) 0 ((-1000000005))) 18 (2) 1 ((-1000000005))) 18 (2) 2 ((-1000000005))) ((1, 2, 3) :: l) c (ce + 27) (sl + 185)) Q
  have hz := Zr_w (g := 18) (k := 2) (j := 2) (v := (-1000000005)) hz (by rw [hc]; decide)
  refine am_go 2 ?_
  refine am_go 6 ?_
  show am_WP ((mX1_init, 83, [some (.inr (.inr (some (1, 2)))), some (.inl (3))], []) :: g :: gs) (d + 1) (CM Ls (up3 (up3 (up3 (up3 I 18 (2) 0 ((-1000000005))) 18 (2) 1 ((-1000000005))) 18 (2) 2 ((-1000000005))) 1 (2) 5 (50)) ((1, 2, 3) :: l) c (ce + 27) (sl + 185)) Q
  have hz := Zr_w (g := 1) (k := 2) (j := 5) (v := 50) hz (by rw [hc]; decide)
  refine am_go 3 ?_
  show am_WP ((mX1_init, 88, [some (.inr (.inr (some (1, 2)))), some (.inl (3))], []) :: g :: gs) (d + 1) (CM Ls (up3 (up3 (up3 (up3 (up3 I 18 (2) 0 ((-1000000005))) 18 (2) 1 ((-1000000005))) 18 (2) 2 ((-1000000005))) 1 (2) 5 (50)) 1 (2) 6 (1)) ((1, 2, 3) :: l) c (ce + 27) (sl + 185)) Q
  have hz := Zr_w (g := 1) (k := 2) (j := 6) (v := 1) hz (by rw [hc]; decide)
  refine am_go 3 ?_
  show am_WP ((mX1_init, 93, [some (.inr (.inr (some (1, 2)))), some (.inl (3))], []) :: g :: gs) (d + 1) (CM Ls (up3 (up3 (up3 (up3 (up3 (up3 I 18 (2) 0 ((-1000000005))) 18 (2) 1 ((-1000000005))) 18 (2) 2 ((-1000000005))) 1 (2) 5 (50)) 1 (2) 6 (1)) 1 (2) 8 (1)) ((1, 2, 3) :: l) c (ce + 27) (sl + 185)) Q
  have hz := Zr_w (g := 1) (k := 2) (j := 8) (v := 1) hz (by rw [hc]; decide)
  refine am_go 1 ?_
  show am_WP (am_psh g none :: gs) (d + 1 + 1) (CM Ls (up3 (up3 (up3 (up3 (up3 (up3 I 18 (2) 0 ((-1000000005))) 18 (2) 1 ((-1000000005))) 18 (2) 2 ((-1000000005))) 1 (2) 5 (50)) 1 (2) 6 (1)) 1 (2) 8 (1)) ((1, 2, 3) :: l) c (ce + 27) (sl + 185)) Q
  rw [CM_drop sr_hi1 hl1]
  exact K c hz hc
set_option maxRecDepth 100000 in
set_option maxHeartbeats 4000000 in
theorem c_neck {Q : Option am_V → am_M → Prop} {g : am_F} {gs : List am_F} {d Ls : Nat} {I : Im} {c : Nat → Nat} {ce sl : Nat} {l : List (Nat × Nat × Nat)} (hQ : ∀ v M P, Q v M → Q v (rR M P)) (hz : Zr I c) (hc : ∀ g, c g = cL [(2, 1), (18, 3), (81, 3), (17, 24), (16, 24), (0, 24), (80, 3), (1, 3), (7, 1)] g) (hl : ∀ j, lU l 2 0 j = false) (K : ∀ c' : Nat → Nat, Zr I c' → (∀ g, c' g = cL [(22, 1), (21, 1), (20, 1), (19, 1), (2, 1), (18, 3), (81, 3), (17, 24), (16, 24), (0, 24), (80, 3), (1, 3), (7, 1)] g) → am_WP (am_psh g none :: gs) (d + 1) (CM Ls I l c' (ce + 4) (sl + 27)) Q) : am_WP (am_entry mX2_init [.inr (.inr (some (2, 0)))] :: g :: gs) (d) (CM Ls I ((2, 0, 0) :: l) c ce sl) Q := by
  show am_WP (am_entry mX2_init [.inr (.inr (some (2, 0)))] :: g :: gs) (d) (CM Ls I ((2, 0, 0) :: l) c (ce + 0) (sl + 0)) Q
  refine am_go 5 ?_
  show am_WP ((mX2_init, 9, [some (.inr (.inr (some (2, 0))))], [.inr (.inr (some (19, c 19))), .inr (.inr (some (2, 0)))]) :: g :: gs) d (am_new (CM Ls I ((2, 0, 0) :: l) c (ce + 0) (sl + 0)) 19 6 6) Q
  rw [show c 19 = 0 from (hc 19).trans rfl]
  refine E_newI hz hc rfl (by decide) (by decide) rfl (fun c hz hc => ?_)
  have hc : ∀ g, c g = cL [(19, 1), (2, 1), (18, 3), (81, 3), (17, 24), (16, 24), (0, 24), (80, 3), (1, 3), (7, 1)] g := hc
  show am_WP ((mX2_init, 9, [some (.inr (.inr (some (2, 0))))], [.inr (.inr (some (19, 0))), .inr (.inr (some (2, 0)))]) :: g :: gs) d (CM Ls I ((2, 0, 0) :: l) c (ce + 1) (sl + 6)) Q
  refine am_go 1 ?_
  show am_WP ((mX2_init, 12, [some (.inr (.inr (some (2, 0))))], []) :: g :: gs) d (am_sR (CM Ls I ((2, 0, 0) :: l) c (ce + 1) (sl + 6)) 2 (0) 0 (some (19, 0))) Q
  refine E_set (by rfl) ?_
  show am_WP ((mX2_init, 12, [some (.inr (.inr (some (2, 0))))], []) :: g :: gs) d (CM Ls I ((2, 0, 1) :: l) c (ce + 1) (sl + 6)) Q
  refine am_go 3 ?_
  show am_WP ((mX2_init, 17, [some (.inr (.inr (some (2, 0))))], [.inr (.inr (some (20, c 20))), .inr (.inr (some (2, 0)))]) :: g :: gs) d (am_new (CM Ls I ((2, 0, 1) :: l) c (ce + 1) (sl + 6)) 20 7 7) Q
  rw [show c 20 = 0 from (hc 20).trans rfl]
  refine E_newI hz hc rfl (by decide) (by decide) rfl (fun c hz hc => ?_)
  have hc : ∀ g, c g = cL [(20, 1), (19, 1), (2, 1), (18, 3), (81, 3), (17, 24), (16, 24), (0, 24), (80, 3), (1, 3), (7, 1)] g := hc
  show am_WP ((mX2_init, 17, [some (.inr (.inr (some (2, 0))))], [.inr (.inr (some (20, 0))), .inr (.inr (some (2, 0)))]) :: g :: gs) d (CM Ls I ((2, 0, 1) :: l) c (ce + 2) (sl + 13)) Q
  refine am_go 1 ?_
  show am_WP ((mX2_init, 20, [some (.inr (.inr (some (2, 0))))], []) :: g :: gs) d (am_sR (CM Ls I ((2, 0, 1) :: l) c (ce + 2) (sl + 13)) 2 (0) 1 (some (20, 0))) Q
  refine E_set (by rfl) ?_
  show am_WP ((mX2_init, 20, [some (.inr (.inr (some (2, 0))))], []) :: g :: gs) d (CM Ls I ((2, 0, 2) :: l) c (ce + 2) (sl + 13)) Q
  refine am_go 3 ?_
  show am_WP ((mX2_init, 25, [some (.inr (.inr (some (2, 0))))], [.inr (.inr (some (21, c 21))), .inr (.inr (some (2, 0)))]) :: g :: gs) d (am_new (CM Ls I ((2, 0, 2) :: l) c (ce + 2) (sl + 13)) 21 7 7) Q
  rw [show c 21 = 0 from (hc 21).trans rfl]
  refine E_newI hz hc rfl (by decide) (by decide) rfl (fun c hz hc => ?_)
  have hc : ∀ g, c g = cL [(21, 1), (20, 1), (19, 1), (2, 1), (18, 3), (81, 3), (17, 24), (16, 24), (0, 24), (80, 3), (1, 3), (7, 1)] g := hc
  show am_WP ((mX2_init, 25, [some (.inr (.inr (some (2, 0))))], [.inr (.inr (some (21, 0))), .inr (.inr (some (2, 0)))]) :: g :: gs) d (CM Ls I ((2, 0, 2) :: l) c (ce + 3) (sl + 20)) Q
  refine am_go 1 ?_
  show am_WP ((mX2_init, 28, [some (.inr (.inr (some (2, 0))))], []) :: g :: gs) d (am_sR (CM Ls I ((2, 0, 2) :: l) c (ce + 3) (sl + 20)) 2 (0) 2 (some (21, 0))) Q
  refine E_set (by rfl) ?_
  show am_WP ((mX2_init, 28, [some (.inr (.inr (some (2, 0))))], []) :: g :: gs) d (CM Ls I ((2, 0, 3) :: l) c (ce + 3) (sl + 20)) Q
  refine am_go 3 ?_
  show am_WP ((mX2_init, 33, [some (.inr (.inr (some (2, 0))))], [.inr (.inr (some (22, c 22))), .inr (.inr (some (2, 0)))]) :: g :: gs) d (am_new (CM Ls I ((2, 0, 3) :: l) c (ce + 3) (sl + 20)) 22 7 7) Q
  rw [show c 22 = 0 from (hc 22).trans rfl]
  refine E_newI hz hc rfl (by decide) (by decide) rfl (fun c hz hc => ?_)
  have hc : ∀ g, c g = cL [(22, 1), (21, 1), (20, 1), (19, 1), (2, 1), (18, 3), (81, 3), (17, 24), (16, 24), (0, 24), (80, 3), (1, 3), (7, 1)] g := hc
  show am_WP ((mX2_init, 33, [some (.inr (.inr (some (2, 0))))], [.inr (.inr (some (22, 0))), .inr (.inr (some (2, 0)))]) :: g :: gs) d (CM Ls I ((2, 0, 3) :: l) c (ce + 4) (sl + 27)) Q
  refine am_go 1 ?_
  show am_WP ((mX2_init, 36, [some (.inr (.inr (some (2, 0))))], []) :: g :: gs) d (am_sR (CM Ls I ((2, 0, 3) :: l) c (ce + 4) (sl + 27)) 2 (0) 3 (some (22, 0))) Q
  refine E_set (by rfl) ?_
  show am_WP ((mX2_init, 36, [some (.inr (.inr (some (2, 0))))], []) :: g :: gs) d (CM Ls I ((2, 0, 4) :: l) c (ce + 4) (sl + 27)) Q
  refine am_go 1 ?_
  show am_WP (am_psh g none :: gs) (d + 1) (CM Ls I ((2, 0, 4) :: l) c (ce + 4) (sl + 27)) Q
  rw [CM_drop sr_hi2 hl]
  exact K c hz hc
set_option maxRecDepth 100000 in
set_option maxHeartbeats 4000000 in
theorem c_reader {Q : Option am_V → am_M → Prop} {g : am_F} {gs : List am_F} {d Ls : Nat} {I : Im} {c : Nat → Nat} {ce sl : Nat} {l : List (Nat × Nat × Nat)} (hQ : ∀ v M P, Q v M → Q v (rR M P)) (hz : Zr I c) (hc : ∀ g, c g = cL [(3, 1), (22, 1), (21, 1), (20, 1), (19, 1), (2, 1), (18, 3), (81, 3), (17, 24), (16, 24), (0, 24), (80, 3), (1, 3), (7, 1)] g) (hl : ∀ j, lU l 3 0 j = false) (K : ∀ c' : Nat → Nat, Zr I c' → (∀ g, c' g = cL [(24, 1), (23, 1), (3, 1), (22, 1), (21, 1), (20, 1), (19, 1), (2, 1), (18, 3), (81, 3), (17, 24), (16, 24), (0, 24), (80, 3), (1, 3), (7, 1)] g) → am_WP (am_psh g none :: gs) (d + 1) (CM Ls I l c' (ce + 2) (sl + 192)) Q) : am_WP (am_entry mX3_init [.inr (.inr (some (3, 0)))] :: g :: gs) (d) (CM Ls I ((3, 0, 0) :: l) c ce sl) Q := by
  show am_WP (am_entry mX3_init [.inr (.inr (some (3, 0)))] :: g :: gs) (d) (CM Ls I ((3, 0, 0) :: l) c (ce + 0) (sl + 0)) Q
  refine am_go 5 ?_
  show am_WP ((mX3_init, 9, [some (.inr (.inr (some (3, 0))))], [.inr (.inr (some (23, c 23))), .inr (.inr (some (3, 0)))]) :: g :: gs) d (am_new (CM Ls I ((3, 0, 0) :: l) c (ce + 0) (sl + 0)) 23 96 96) Q
  rw [show c 23 = 0 from (hc 23).trans rfl]
  refine E_newI hz hc rfl (by decide) (by decide) rfl (fun c hz hc => ?_)
  have hc : ∀ g, c g = cL [(23, 1), (3, 1), (22, 1), (21, 1), (20, 1), (19, 1), (2, 1), (18, 3), (81, 3), (17, 24), (16, 24), (0, 24), (80, 3), (1, 3), (7, 1)] g := hc
  show am_WP ((mX3_init, 9, [some (.inr (.inr (some (3, 0))))], [.inr (.inr (some (23, 0))), .inr (.inr (some (3, 0)))]) :: g :: gs) d (CM Ls I ((3, 0, 0) :: l) c (ce + 1) (sl + 96)) Q
  refine am_go 1 ?_
  show am_WP ((mX3_init, 12, [some (.inr (.inr (some (3, 0))))], []) :: g :: gs) d (am_sR (CM Ls I ((3, 0, 0) :: l) c (ce + 1) (sl + 96)) 3 (0) 2 (some (23, 0))) Q
  rw [CM_skip (g := 3) (k := 0) (f := 0) rfl]
  rw [CM_skip (g := 3) (k := 0) (f := 1) rfl]
  refine E_set (by rfl) ?_
  show am_WP ((mX3_init, 12, [some (.inr (.inr (some (3, 0))))], []) :: g :: gs) d (CM Ls I ((3, 0, 3) :: l) c (ce + 1) (sl + 96)) Q
  refine am_go 3 ?_
  show am_WP ((mX3_init, 17, [some (.inr (.inr (some (3, 0))))], [.inr (.inr (some (24, c 24))), .inr (.inr (some (3, 0)))]) :: g :: gs) d (am_new (CM Ls I ((3, 0, 3) :: l) c (ce + 1) (sl + 96)) 24 96 96) Q
  rw [show c 24 = 0 from (hc 24).trans rfl]
  refine E_newI hz hc rfl (by decide) (by decide) rfl (fun c hz hc => ?_)
  have hc : ∀ g, c g = cL [(24, 1), (23, 1), (3, 1), (22, 1), (21, 1), (20, 1), (19, 1), (2, 1), (18, 3), (81, 3), (17, 24), (16, 24), (0, 24), (80, 3), (1, 3), (7, 1)] g := hc
  show am_WP ((mX3_init, 17, [some (.inr (.inr (some (3, 0))))], [.inr (.inr (some (24, 0))), .inr (.inr (some (3, 0)))]) :: g :: gs) d (CM Ls I ((3, 0, 3) :: l) c (ce + 2) (sl + 192)) Q
  refine am_go 1 ?_
  show am_WP ((mX3_init, 20, [some (.inr (.inr (some (3, 0))))], []) :: g :: gs) d (am_sR (CM Ls I ((3, 0, 3) :: l) c (ce + 2) (sl + 192)) 3 (0) 3 (some (24, 0))) Q
  refine E_set (by rfl) ?_
  show am_WP ((mX3_init, 20, [some (.inr (.inr (some (3, 0))))], []) :: g :: gs) d (CM Ls I ((3, 0, 4) :: l) c (ce + 2) (sl + 192)) Q
  refine am_go 1 ?_
  show am_WP (am_psh g none :: gs) (d + 1) (CM Ls I ((3, 0, 4) :: l) c (ce + 2) (sl + 192)) Q
  rw [CM_drop sr_hi3 hl]
  exact K c hz hc
