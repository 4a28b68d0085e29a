def sr_0 : Nat → Nat → Option (Nat × Nat) := fun k j => cond (Nat.ble 1 j) (cond (Nat.ble 2 j) (none) (some (17, k))) (some (16, k))
def sr_1 : Nat → Nat → Option (Nat × Nat) := fun k j => cond (Nat.ble 2 j) (cond (Nat.ble 3 j) (none) (some (18, k))) (cond (Nat.ble 1 j) (some (81, k)) (some (80, k)))
def sr_2 : Nat → Nat → Option (Nat × Nat) := fun k j => cond (Nat.ble 2 j) (cond (Nat.ble 3 j) (cond (Nat.ble 4 j) (none) (some (22, k))) (some (21, k))) (cond (Nat.ble 1 j) (some (20, k)) (some (19, k)))
def sr_3 : Nat → Nat → Option (Nat × Nat) := fun k j => cond (Nat.ble 3 j) (cond (Nat.ble 4 j) (none) (some (24, k))) (cond (Nat.ble 2 j) (some (23, k)) (none))
def sr_4 : Nat → Nat → Option (Nat × Nat) := fun k j => cond (Nat.ble 1 j) (none) (some (25, k))
def sr_5 : Nat → Nat → Option (Nat × Nat) := fun k j => cond (Nat.ble 1 j) (none) (some (4, k + 4))
def sr_6 : Nat → Nat → Option (Nat × Nat) := fun k j => cond (Nat.ble 3 j) (cond (Nat.ble 4 j) (none) (some (28, k))) (cond (Nat.ble 2 j) (some (27, k)) (none))
def sr_7 : Nat → Nat → Option (Nat × Nat) := fun k j => cond (Nat.ble 4 j) (cond (Nat.ble 6 j) (cond (Nat.ble 7 j) (cond (Nat.ble 8 j) (none) (some (26, 0))) (some (83, 0))) (cond (Nat.ble 5 j) (some (82, 0)) (some (3, 0)))) (cond (Nat.ble 2 j) (cond (Nat.ble 3 j) (some (2, 0)) (some (1, 2))) (cond (Nat.ble 1 j) (some (1, 1)) (some (1, 0))))
def sr_8 : Nat → Nat → Option (Nat × Nat) := fun k j => cond (Nat.ble 12 j) (cond (Nat.ble 29 j) (cond (Nat.ble 32 j) (cond (Nat.ble 34 j) (cond (Nat.ble 35 j) (none) (some (49, k))) (cond (Nat.ble 33 j) (none) (some (48, k)))) (cond (Nat.ble 30 j) (cond (Nat.ble 31 j) (some (47, k)) (some (46, k))) (some (45, k)))) (cond (Nat.ble 16 j) (cond (Nat.ble 17 j) (cond (Nat.ble 18 j) (none) (some (44, k))) (some (43, k))) (cond (Nat.ble 14 j) (cond (Nat.ble 15 j) (some (42, k)) (some (41, k))) (none)))) (cond (Nat.ble 6 j) (cond (Nat.ble 9 j) (cond (Nat.ble 10 j) (cond (Nat.ble 11 j) (some (40, k)) (some (39, k))) (some (38, k))) (cond (Nat.ble 7 j) (cond (Nat.ble 8 j) (some (37, k)) (some (36, k))) (some (35, k)))) (cond (Nat.ble 3 j) (cond (Nat.ble 4 j) (cond (Nat.ble 5 j) (some (34, k)) (some (33, k))) (none)) (cond (Nat.ble 1 j) (cond (Nat.ble 2 j) (some (32, k)) (some (31, k))) (some (30, k)))))
/-- the references of the built objects, by their places; T: the texts of the cellars -/
def st_R (T : Nat → Nat → Option (Nat × Nat)) : Nat → Nat → Nat → Option (Nat × Nat) := fun g k j => cond (Nat.ble 7 g) (cond (Nat.ble 81 g) (cond (Nat.ble 83 g) (cond (Nat.ble 84 g) (none) (some (5, j))) (cond (Nat.ble 82 g) (some (4, j)) (T k j))) (cond (Nat.ble 9 g) (cond (Nat.ble 80 g) (some (0, j + 8 * k)) (none)) (cond (Nat.ble 8 g) (sr_8 k j) (sr_7 k j)))) (cond (Nat.ble 3 g) (cond (Nat.ble 5 g) (cond (Nat.ble 6 g) (sr_6 k j) (sr_5 k j)) (cond (Nat.ble 4 g) (sr_4 k j) (sr_3 k j))) (cond (Nat.ble 1 g) (cond (Nat.ble 2 g) (sr_2 k j) (sr_1 k j)) (sr_0 k j)))
def st_L (Ls : Nat) (ls lk : Nat → Nat) : Nat → Nat → Nat := fun g k => cond (Nat.ble 40 g) (cond (Nat.ble 50 g) (cond (Nat.ble 83 g) (cond (Nat.ble 96 g) (cond (Nat.ble 97 g) (0) (Ls)) (cond (Nat.ble 84 g) (0) (5))) (cond (Nat.ble 81 g) (cond (Nat.ble 82 g) (4) (14)) (cond (Nat.ble 80 g) (8) (0)))) (cond (Nat.ble 45 g) (cond (Nat.ble 47 g) (cond (Nat.ble 48 g) (60) (24)) (cond (Nat.ble 46 g) (100) (128))) (cond (Nat.ble 43 g) (cond (Nat.ble 44 g) (96) (150)) (cond (Nat.ble 41 g) (7) (120))))) (cond (Nat.ble 26 g) (cond (Nat.ble 30 g) (cond (Nat.ble 35 g) (cond (Nat.ble 36 g) (5) (96)) (cond (Nat.ble 33 g) (4) (3150))) (cond (Nat.ble 28 g) (cond (Nat.ble 29 g) (0) (lk k)) (cond (Nat.ble 27 g) (ls k) (60)))) (cond (Nat.ble 19 g) (cond (Nat.ble 23 g) (cond (Nat.ble 25 g) (24) (96)) (cond (Nat.ble 20 g) (7) (6))) (cond (Nat.ble 16 g) (cond (Nat.ble 18 g) (3) (6)) (0))))
/-- what of a memory isn't numbers: texts of the cellars, how many of a group, lengths of the texts' rows, the script's length, cells, slots -/
abbrev am_Z : Type := (Nat → Nat → Option (Nat × Nat)) × (Nat → Nat) × (Nat → Nat) × (Nat → Nat) × Nat × Nat × Nat
def mk (I : Nat → Nat → Nat → Int32) (X : am_Z) : am_M := (I, st_R X.1, X.2.1, st_L X.2.2.2.2.1 X.2.2.1 X.2.2.2.1, X.2.2.2.2.2.1, X.2.2.2.2.2.2)
def up3 (I : Nat → Nat → Nat → Int32) (g k j : Nat) (v : Int32) : Nat → Nat → Nat → Int32 := fun g' k' j' => cond (Nat.beq g' g) (if k' = k ∧ j' = j then v else I g' k' j') (I g' k' j')
def up2 (I : Nat → Nat → Nat → Int32) (g k : Nat) (f : Nat → Int32) : Nat → Nat → Nat → Int32 := fun g' k' j' => cond (Nat.beq g' g) (if k' = k then f j' else I g' k' j') (I g' k' j')
theorem mk_sI (I : Nat → Nat → Nat → Int32) (X : am_Z) (g k j : Nat) (v : Int32) : am_sI (mk I X) g k j v = mk (up3 I g k j v) X := rfl
theorem mk_sA (I : Nat → Nat → Nat → Int32) (X : am_Z) (g k : Nat) (f : Nat → Int32) : am_sA (mk I X) g k f = mk (up2 I g k f) X := rfl
/-- the memory at the law's start -/
def am_I0 (xs : Nat → Int32) : Nat → Nat → Nat → Int32 := fun g _ j => cond (Nat.beq g 96) (xs j) 0
def am_X0 (Ls : Nat) : am_Z := (fun _ _ => none, fun _ => 0, fun _ => 0, fun _ => 0, Ls, 0, 0)
theorem am_st0_ok (xs : Nat → Int32) (Ls : Nat) : am_st0 xs Ls (mk (am_I0 xs) (am_X0 Ls)) := ⟨rfl, fun _ => rfl, rfl, rfl, rfl⟩
/-- k steps of a whole run -/
def am_sk : Nat → List am_F → Nat → am_M → Option (List am_F × Nat × am_M)
  | 0, fs, d, M => some (fs, d, M)
  | _ + 1, [], _, _ => none
  | n + 1, f :: fs, d, M => match am_fn f M with
    | none => none
    | some (.inl (_, f', M')) => am_sk n (f' :: fs) d M'
    | some (.inr (.inl (e, f', M'))) => (match d with
      | 0 => none
      | d + 1 => am_sk n (e :: f' :: fs) d M')
    | some (.inr (.inr (v, M'))) => (match fs with
      | [] => none
      | g :: gs => am_sk n (am_psh g v :: gs) (d + 1) M')
theorem am_sk_WP {Q : Option am_V → am_M → Prop} : ∀ (n : Nat) (fs : List am_F) (d : Nat) (M : am_M) {fs' : List am_F} {d' : Nat} {M' : am_M}, am_sk n fs d M = some (fs', d', M') → am_WP fs' d' M' Q → am_WP fs d M Q
  | 0, fs, d, M, _, _, _, h, k => by cases h; exact k
  | _ + 1, [], _, _, _, _, _, h, _ => by cases h
  | n + 1, f :: fs, d, M, fs', d', M', h, k => by
    rw [am_sk] at h
    rcases hf : am_fn f M with _ | ⟨⟨b, f', M1⟩ | ⟨e, f', M1⟩ | ⟨w, M1⟩⟩
    · rw [hf] at h; cases h
    · rw [hf] at h
      obtain ⟨n2, v2, M2, h3, h4⟩ := am_sk_WP n _ _ _ h k
      exact ⟨n2 + 1, v2, M2, by rw [am_run, hf]; exact h3, h4⟩
    · rw [hf] at h
      cases d with
      | zero => cases h
      | succ d =>
        obtain ⟨n2, v2, M2, h3, h4⟩ := am_sk_WP n (e :: f' :: fs) d M1 h k
        exact ⟨n2 + 1, v2, M2, by rw [am_run, hf]; exact h3, h4⟩
    · rw [hf] at h
      cases fs with
      | nil => cases h
      | cons g gs =>
        obtain ⟨n2, v2, M2, h3, h4⟩ := am_sk_WP n (am_psh g w :: gs) (d + 1) M1 h k
        exact ⟨n2 + 1, v2, M2, by rw [am_run, hf]; exact h3, h4⟩
/-- what comes behind n steps from the law's start -/
def am_sq (xs : Nat → Int32) (Ls n : Nat) : Option (List am_F × Nat × am_M) := am_sk n [am_entry 0 [.inr (.inr (some (96, 0)))]] 1000 (mk (am_I0 xs) (am_X0 Ls))
def am_pcs (x : Option (List am_F × Nat × am_M)) : Option (Nat × Nat × Nat) := match x with
  | some (f :: _, d, _) => some (f.1, f.2.1, d)
  | _ => none

