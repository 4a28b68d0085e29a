/-! the constructors: events -/
def cL : List (Nat × Nat) → Nat → Nat
  | [], _ => 0
  | (g, v) :: t, g' => cond (Nat.beq g' g) v (cL t g')
def er (g : Nat) : List (Nat × Nat) → List (Nat × Nat)
  | [] => []
  | (a, v) :: t => cond (Nat.beq a g) (er g t) ((a, v) :: er g t)
theorem cL_er {g g' : Nat} (h : ¬ g' = g) : ∀ (t : List (Nat × Nat)), cL (er g t) g' = cL t g'
  | [] => rfl
  | (a, v) :: t => by
    have ih := cL_er h t
    show cL (cond (Nat.beq a g) (er g t) ((a, v) :: er g t)) g' = cond (Nat.beq g' a) v (cL t g')
    by_cases e : a = g
    · rw [e, bqt, bqf h]
      exact ih
    · rw [bqf e]
      show cond (Nat.beq g' a) v (cL (er g t) g') = _
      rw [ih]
theorem cL_up {c : Nat → Nat} {t : List (Nat × Nat)} {g v : Nat} (hc : ∀ g, c g = cL t g) (hv : cL t g = v) : ∀ g', fu c g (c g + 1) g' = cL ((g, v + 1) :: er g t) g' := fun g' => by
  show (if g' = g then c g + 1 else c g') = cond (Nat.beq g' g) (v + 1) (cL (er g t) g')
  by_cases e : g' = g
  · rw [if_pos e, e, bqt, hc g, hv]; rfl
  · rw [if_neg e, bqf e, hc g']
    exact (cL_er e t).symm
theorem E_new {Q : Option am_V → am_M → Prop} {fs : List am_F} {d Ls : Nat} {I : Im} {l : List (Nat × Nat × Nat)} {c : Nat → Nat} {t : List (Nat × Nat)} {ce sl g n s v : Nat} (hz : Zr I c) (hc : ∀ g, c g = cL t g) (hv : cL t g = v) (hg : g ≠ 96) (hn : st_L Ls z0 z0 g v = n) (K : ∀ c' : Nat → Nat, Zr I c' → (∀ g', c' g' = cL ((g, v + 1) :: er g t) g') → am_WP fs d (CM Ls I ((g, v, 0) :: l) c' (ce + 1) (sl + s)) Q) : am_WP fs d (am_new (CM Ls I l c ce sl) g n s) Q := by
  have e : c g = v := (hc g).trans hv
  rw [CM_new hz hg (by rw [e]; exact hn)]
  have k := K _ (Zr_fu (g := g) hz) (cL_up hc hv)
  rw [e] at k ⊢
  exact k
theorem E_set {Q : Option am_V → am_M → Prop} {fs : List am_F} {d Ls : Nat} {I : Im} {l : List (Nat × Nat × Nat)} {c : Nat → Nat} {ce sl g k f : Nat} {v : Option (Nat × Nat)} (hv : v = st_R nT g k f) (K : am_WP fs d (CM Ls I ((g, k, f + 1) :: l) c ce sl) Q) : am_WP fs d (am_sR (CM Ls I ((g, k, f) :: l) c ce sl) g k f v) Q := by
  rw [CM_set hv]; exact K
theorem E_newI {Q : Option am_V → am_M → Prop} {fs : List am_F} {d Ls : Nat} {I : Im} {l : List (Nat × Nat × Nat)} {c : Nat → Nat} {t : List (Nat × Nat)} {ce sl g n s v : Nat} (hz : Zr I c) (hc : ∀ g, c g = cL t g) (hv : cL t g = v) (h1 : 16 ≤ g) (h2 : g ≤ 79) (hn : st_L Ls z0 z0 g v = n) (K : ∀ c' : Nat → Nat, Zr I c' → (∀ g', c' g' = cL ((g, v + 1) :: er g t) g') → am_WP fs d (CM Ls I l c' (ce + 1) (sl + s)) Q) : am_WP fs d (am_new (CM Ls I l c ce sl) g n s) Q := by
  have e : c g = v := (hc g).trans hv
  rw [CM_newI hz h1 h2 (by rw [e]; exact hn)]
  exact K _ (Zr_fu (g := g) hz) (cL_up hc hv)
theorem sr_hi0 {k : Nat} : ∀ j, 2 ≤ j → st_R nT 0 k j = none := fun j h => by
  show sr_0 k j = none
  unfold sr_0
  rw [Nat.ble_eq_true_of_le (show 1 ≤ j by omega), Nat.ble_eq_true_of_le (show 2 ≤ j by omega)]
  rfl
theorem sr_hi1 {k : Nat} : ∀ j, 3 ≤ j → st_R nT 1 k j = none := fun j h => by
  show sr_1 k j = none
  unfold sr_1
  rw [Nat.ble_eq_true_of_le (show 2 ≤ j by omega), Nat.ble_eq_true_of_le (show 3 ≤ j by omega)]
  rfl
theorem sr_hi2 {k : Nat} : ∀ j, 4 ≤ j → st_R nT 2 k j = none := fun j h => by
  show sr_2 k j = none
  unfold sr_2
  rw [Nat.ble_eq_true_of_le (show 2 ≤ j by omega), Nat.ble_eq_true_of_le (show 3 ≤ j by omega), Nat.ble_eq_true_of_le (show 4 ≤ j by omega)]
  rfl
theorem sr_hi3 {k : Nat} : ∀ j, 4 ≤ j → st_R nT 3 k j = none := fun j h => by
  show sr_3 k j = none
  unfold sr_3
  rw [Nat.ble_eq_true_of_le (show 3 ≤ j by omega), Nat.ble_eq_true_of_le (show 4 ≤ j by omega)]
  rfl
theorem sr_hi4 {k : Nat} : ∀ j, 1 ≤ j → st_R nT 4 k j = none := fun j h => by
  show sr_4 k j = none
  unfold sr_4
  rw [Nat.ble_eq_true_of_le (show 1 ≤ j by omega)]
  rfl
theorem sr_hi5 {k : Nat} : ∀ j, 1 ≤ j → st_R nT 5 k j = none := fun j h => by
  show sr_5 k j = none
  unfold sr_5
  rw [Nat.ble_eq_true_of_le (show 1 ≤ j by omega)]
  rfl
theorem sr_hi7 {k : Nat} : ∀ j, 8 ≤ j → st_R nT 7 k j = none := fun j h => by
  show sr_7 k j = none
  unfold sr_7
  rw [Nat.ble_eq_true_of_le (show 4 ≤ j by omega), Nat.ble_eq_true_of_le (show 6 ≤ j by omega), Nat.ble_eq_true_of_le (show 7 ≤ j by omega), Nat.ble_eq_true_of_le (show 8 ≤ j by omega)]
  rfl
theorem sr_hi8 {k : Nat} : ∀ j, 35 ≤ j → st_R nT 8 k j = none := fun j h => by
  show sr_8 k j = none
  unfold sr_8
  rw [Nat.ble_eq_true_of_le (show 12 ≤ j by omega), Nat.ble_eq_true_of_le (show 29 ≤ j by omega), Nat.ble_eq_true_of_le (show 32 ≤ j by omega), Nat.ble_eq_true_of_le (show 34 ≤ j by omega), Nat.ble_eq_true_of_le (show 35 ≤ j by omega)]
  rfl
set_option maxRecDepth 100000 in
theorem c_bot {Q : Option am_V → am_M → Prop} {g : am_F} {gs : List am_F} {d Ls : Nat} {I : Im} {l : List (Nat × Nat × Nat)} {c : Nat → Nat} {t : List (Nat × Nat)} {ce sl k : Nat} (hz : Zr I c) (hc : ∀ g, c g = cL t g) (h16 : cL t 16 = k) (h17 : cL t 17 = k) (hl : ∀ j, lU l 0 k j = false) (K : ∀ c' : Nat → Nat, Zr I c' → (∀ g', c' g' = cL ((17, k + 1) :: er 17 ((16, k + 1) :: er 16 t)) g') → am_WP (am_psh g none :: gs) (d + 1) (CM Ls I l c' (ce + 2) (sl + 12)) Q) : am_WP (am_entry mX0_init [.inr (.inr (some (0, k)))] :: g :: gs) d (CM Ls I ((0, k, 0) :: l) c ce sl) Q := by
  refine am_go 5 ?_
  show am_WP ((mX0_init, 9, [some (.inr (.inr (some (0, k))))], [.inr (.inr (some (16, c 16))), .inr (.inr (some (0, k)))]) :: g :: gs) d (am_new (CM Ls I ((0, k, 0) :: l) c ce sl) 16 6 6) Q
  rw [show c 16 = k from (hc 16).trans h16]
  refine E_newI hz hc h16 (by decide) (by decide) rfl (fun c hz hc => ?_)
  refine am_go 1 ?_
  show am_WP ((mX0_init, 12, [some (.inr (.inr (some (0, k))))], []) :: g :: gs) d (am_sR (CM Ls I ((0, k, 0) :: l) c (ce + 1) (sl + 6)) 0 k 0 (some (16, k))) Q
  refine E_set (by rfl) ?_
  have h17' : cL ((16, k + 1) :: er 16 t) 17 = k := (cL_er (by decide) t : cL (er 16 t) 17 = cL t 17).trans h17
  refine am_go 3 ?_
  show am_WP ((mX0_init, 17, [some (.inr (.inr (some (0, k))))], [.inr (.inr (some (17, c 17))), .inr (.inr (some (0, k)))]) :: g :: gs) d (am_new (CM Ls I ((0, k, 1) :: l) c (ce + 1) (sl + 6)) 17 6 6) Q
  rw [show c 17 = k from (hc 17).trans h17']
  refine E_newI hz hc h17' (by decide) (by decide) rfl (fun c hz hc => ?_)
  refine am_go 1 ?_
  show am_WP ((mX0_init, 20, [some (.inr (.inr (some (0, k))))], []) :: g :: gs) d (am_sR (CM Ls I ((0, k, 1) :: l) c (ce + 2) (sl + 12)) 0 k 1 (some (17, k))) Q
  refine E_set (by rfl) ?_
  refine am_go 1 ?_
  show am_WP (am_psh g none :: gs) (d + 1) (CM Ls I ((0, k, 2) :: l) c (ce + 2) (sl + 12)) Q
  rw [CM_drop sr_hi0 hl]
  exact K c hz hc
set_option maxRecDepth 100000 in
theorem c_row {Q : Option am_V → am_M → Prop} {g : am_F} {gs : List am_F} {d Ls : Nat} {I : Im} {l : List (Nat × Nat × Nat)} {c : Nat → Nat} {t : List (Nat × Nat)} {ce sl k : Nat} (hz : Zr I c) (hc : ∀ g, c g = cL t g) (h25 : cL t 25 = k) (h4 : k < cL t 4) (hl : ∀ j, lU l 4 k j = false) (K : ∀ c' : Nat → Nat, Zr (up3 I 4 k 1 (-1)) c' → (∀ g', c' g' = cL ((25, k + 1) :: er 25 t) g') → am_WP (am_psh g none :: gs) (d + 1) (CM Ls (up3 I 4 k 1 (-1)) l c' (ce + 1) (sl + 24)) Q) : am_WP (am_entry mX4_init [.inr (.inr (some (4, k)))] :: g :: gs) d (CM Ls I ((4, k, 0) :: l) c ce sl) Q := by
  refine am_go 5 ?_
  show am_WP ((mX4_init, 9, [some (.inr (.inr (some (4, k))))], [.inr (.inr (some (25, c 25))), .inr (.inr (some (4, k)))]) :: g :: gs) d (am_new (CM Ls I ((4, k, 0) :: l) c ce sl) 25 24 24) Q
  rw [show c 25 = k from (hc 25).trans h25]
  refine E_newI hz hc h25 (by decide) (by decide) rfl (fun c hz hc => ?_)
  refine am_go 1 ?_
  show am_WP ((mX4_init, 12, [some (.inr (.inr (some (4, k))))], []) :: g :: gs) d (am_sR (CM Ls I ((4, k, 0) :: l) c (ce + 1) (sl + 24)) 4 k 0 (some (25, k))) Q
  refine E_set (by rfl) ?_
  refine am_go 4 ?_
  show am_WP (am_psh g none :: gs) (d + 1) (CM Ls (up3 I 4 k 1 (-1)) ((4, k, 1) :: l) c (ce + 1) (sl + 24)) Q
  have hz := Zr_w (g := 4) (k := k) (j := 1) (v := -1) hz (by rw [hc]; exact ((cL_er (by decide) t : cL (er 25 t) 4 = cL t 4) ▸ h4))
  rw [CM_drop sr_hi4 hl]
  exact K c hz hc
