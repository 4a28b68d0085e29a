/-! the law's start -/
def cbI (I : Im) : Im := (up3 (up3 (up3 (up3 (up3 (up3 (up3 (up3 (up3 (up3 (up3 (up3 (up3 (up3 (up3 (up3 (up3 (up3 (up3 (up3 (up3 (up3 (up3 (up3 (up3 (up3 (up3 I 18 (0) 0 ((-1000000005))) 18 (0) 1 ((-1000000005))) 18 (0) 2 ((-1000000005))) 1 (0) 5 (50)) 1 (0) 6 (1)) 1 (0) 8 (1)) 18 (1) 0 ((-1000000005))) 18 (1) 1 ((-1000000005))) 18 (1) 2 ((-1000000005))) 1 (1) 5 (50)) 1 (1) 6 (1)) 1 (1) 8 (1)) 18 (2) 0 ((-1000000005))) 18 (2) 1 ((-1000000005))) 18 (2) 2 ((-1000000005))) 1 (2) 5 (50)) 1 (2) 6 (1)) 1 (2) 8 (1)) 4 (0) 1 (-1)) 4 (1) 1 (-1)) 4 (2) 1 (-1)) 4 (3) 1 (-1)) 4 (4) 1 (-1)) 4 (5) 1 (-1)) 4 (6) 1 (-1)) 4 (7) 1 (-1)) 4 (8) 1 (-1))
def mdI (I : Im) : Im := (up3 (up3 (up3 (up3 (up3 (up3 (up3 I 30 (0) 5 (1)) 30 (0) 3 (50)) 30 (0) 4 (1)) 33 (0) 0 ((-1))) 33 (0) 1 ((-1))) 33 (0) 2 ((-1))) 33 (0) 3 ((-1)))
def s0 : St := (((0, fun j => if j = 1 then 50 else if j = 2 then 1 else 0, 1, fun _ => (fun _ => 0, fun _ => 0, fun _ => 0)), 0, fun _ => (0, 0, [])), none, fun _ => (-1, 0, fun _ => 0), fun _ => (0, 0, 0, 0, fun _ => 0), (0, fun _ => 0), (0, fun _ => 0))
theorem s0_GS : GS s0 := ⟨⟨⟨by decide, by decide, by decide, by decide, fun k h => absurd h (Nat.not_lt_zero k)⟩, by decide, by decide, fun t h => absurd h (Nat.not_lt_zero t)⟩, (fun e h => by cases h), fun k _ => ⟨Or.inl ⟨rfl, rfl⟩, Nat.zero_le _⟩, fun k _ => ⟨Nat.zero_le _, Nat.zero_le _, fun h => absurd (show (0 : Nat) = 1 from h) (by decide)⟩, by decide, by decide, fun j h => absurd h (Nat.not_lt_zero j)⟩
theorem s0_GP : GP s0 := fun k _ j _ => GPl_0
set_option maxRecDepth 100000 in
theorem s0_RC {xs : Nat → Int32} {X : am_Z} (h : IdC X) : RC (mdI (cbI (am_I0 xs))) X s0 := by
  refine ⟨⟨⟨rfl, rfl, rfl, rfl, rfl, fun k h => absurd h (Nat.not_lt_zero k)⟩, rfl, fun key hk => ?_, fun t h => absurd h (Nat.not_lt_zero t)⟩, rfl, fun k hk => ⟨?_, ?_, fun j hj => rfl⟩, fun k hk => ⟨rfl, fun h => absurd (show (0 : Nat) = 1 from h) (by decide), fun h => absurd (show (0 : Nat) = 2 from h) (by decide), fun h => absurd (show (0 : Nat) = 3 from h) (by decide)⟩, ⟨rfl, fun j h => absurd h (Nat.not_lt_zero j)⟩, ⟨rfl, fun j h => absurd h (Nat.not_lt_zero j)⟩, ⟨rfl, rfl, rfl⟩, h⟩
  · rcases (show key = 0 ∨ key = 1 ∨ key = 2 by omega) with rfl | rfl | rfl <;> rfl
  · rcases (show k = 0 ∨ k = 1 ∨ k = 2 ∨ k = 3 by omega) with rfl | rfl | rfl | rfl <;> rfl
  · rcases (show k = 0 ∨ k = 1 ∨ k = 2 ∨ k = 3 by omega) with rfl | rfl | rfl | rfl <;> rfl
set_option maxRecDepth 100000 in
theorem s0_RM {xs : Nat → Int32} : RM (mdI (cbI (am_I0 xs))) s0 := by
  refine ⟨⟨⟨rfl, rfl, rfl, rfl, rfl, fun k h => absurd h (Nat.not_lt_zero k)⟩, rfl, fun t h => absurd h (Nat.not_lt_zero t)⟩, rfl, fun k hk => ⟨?_, rfl, fun j hj => rfl⟩, fun k hk => ⟨rfl, fun h => absurd (show (0 : Nat) = 1 from h) (by decide), fun h => absurd (show (0 : Nat) = 2 from h) (by decide), fun h => absurd (show (0 : Nat) = 3 from h) (by decide)⟩, ⟨rfl, fun j h => absurd h (Nat.not_lt_zero j)⟩, ⟨rfl, fun j h => absurd h (Nat.not_lt_zero j)⟩⟩
  rcases (show k = 0 ∨ k = 1 ∨ k = 2 ∨ k = 3 by omega) with rfl | rfl | rfl | rfl <;> rfl
theorem Zr_0 {xs : Nat → Int32} : Zr (am_I0 xs) (fun _ => 0) := fun g k j hg _ => by
  show cond (Nat.beq g 96) (xs j) 0 = 0
  rw [bqf hg]; rfl
set_option maxRecDepth 100000 in
/-- the law's whole run -/
theorem l_run {xs : Nat → Int32} {L : Nat} {Q : Option am_V → am_M → Prop} (hL2 : L ≤ 3072) (hQ : ∀ v M P, Q v M → Q v (rR M P)) (K : ∀ (I : Im) (X : am_Z), X.2.2.2.2.2.1 ≤ 5000 → X.2.2.2.2.2.2 ≤ 200000 → Q (some (.inl 1)) (mk I X)) : am_WP [am_entry 0 [.inr (.inr (some (96, 0)))]] 1000 (mk (am_I0 xs) (am_X0 L)) Q := by
  have hz : Zr (am_I0 xs) (fun _ => 0) := Zr_0
  have hc : ∀ g, (fun _ : Nat => (0 : Nat)) g = cL [] g := fun _ => rfl
  have e0 : mk (am_I0 xs) (am_X0 L) = CM L (am_I0 xs) [] (fun _ => 0) 0 0 := rfl
  rw [e0]
  generalize (fun _ : Nat => (0 : Nat)) = c at hz hc ⊢
  refine am_go 1 ?_
  show am_WP [(mL_law, 3, [some (.inr (.inr (some (96, 0)))), none, none, none], [.inr (.inr (some (7, c 7)))])] 1000 (am_new (CM L (am_I0 xs) [] c 0 0) 7 0 10) Q
  rw [show c 7 = 0 from (hc 7).trans rfl]
  refine E_new hz hc rfl (by decide) rfl (fun c hz hc => ?_)
  have hc : ∀ g, c g = cL [(7, 1)] g := hc
  refine am_go 2 ?_
  refine c_cb (d := 997) hQ hz hc (fun c hz hc => ?_)
  show am_WP [(mL_law, 7, [some (.inr (.inr (some (96, 0)))), none, none, none], [.inr (.inr (some (7, 0)))])] 1000 (CM L (cbI (am_I0 xs)) [] c 119 1167) Q
  have hz : Zr (cbI (am_I0 xs)) c := hz
  refine am_go 2 ?_
  show am_WP [(mL_law, 11, [some (.inr (.inr (some (96, 0)))), some (.inr (.inr (some (7, 0)))), none, none], [.inr (.inr (some (8, c 8)))])] 1000 (am_new (CM L (cbI (am_I0 xs)) [] c 119 1167) 8 0 35) Q
  rw [show c 8 = 0 from (hc 8).trans rfl]
  refine E_new hz hc rfl (by decide) rfl (fun c hz hc => ?_)
  have hc : ∀ g, c g = cL [(8, 1), (26, 1), (25, 9), (4, 9), (5, 5), (83, 1), (82, 1), (24, 1), (23, 1), (3, 1), (22, 1), (21, 1), (20, 1), (19, 1), (2, 1), (18, 3), (81, 3), (17, 24), (16, 24), (0, 24), (80, 3), (1, 3), (7, 1)] g := hc
  refine am_go 2 ?_
  refine c_md (d := 999) hQ hz hc (fun c hz hc => ?_)
  show am_WP [(mL_law, 15, [some (.inr (.inr (some (96, 0)))), some (.inr (.inr (some (7, 0)))), none, none], [.inr (.inr (some (8, 0)))])] 1000 (CM L (mdI (cbI (am_I0 xs))) [] c 140 11528) Q
  refine am_go 3 ?_
  show am_WP [(mL_law, 18, [some (.inr (.inr (some (96, 0)))), some (.inr (.inr (some (7, 0)))), some (.inr (.inr (some (8, 0)))), some (.inl (nI 0))], [])] (299 + 701) (mk (mdI (cbI (am_I0 xs))) (nT, c, z0, z0, L, 140, 11528)) Q
  exact l_law hL2 K 513 0 0 _ _ s0 (by omega) rfl (by omega) ⟨s0_RC ⟨(hc 27).trans (hc 6).symm, (hc 28).trans (hc 6).symm⟩, s0_RM, s0_GS, s0_GP⟩ rfl (by show 140 ≤ 200 + 3 * 0; omega) (by show 11528 ≤ 20000 + 300 * 0; omega)
