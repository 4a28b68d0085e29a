/-! a text is made -/
theorem WP_eq {fs : List am_F} {d : Nat} {M M' : am_M} {Q : Option am_V → am_M → Prop} (e : M = M') (h : am_WP fs d M' Q) : am_WP fs d M Q := by rw [e]; exact h
theorem nwE {x : Int32} {n : Nat} (hx : x = nI n) (hn : n ≤ 4000) : ¬ (x < 0 ∨ 536870912 < x.toNatClampNeg * 4) := by
  have e : x.toNatClampNeg = n := ix_cl hx (by omega)
  intro z
  rcases z with z | z
  · exact absurd ((lt_nat (a := n) (b := 0) hx rfl (by omega) (by omega)).mp z) (by omega)
  · rw [e] at z; omega
theorem bqf {g c : Nat} (h : ¬ g = c) : Nat.beq g c = false := by
  cases q : Nat.beq g c with
  | false => rfl
  | true => exact absurd (Nat.eq_of_beq_eq_true q) h
def md1 (I : Im) (X : am_Z) : am_M := am_sI (am_sI (am_new (mk I X) 6 0 4) 6 (X.2.1 6) 0 (I 3 0 4)) 6 (X.2.1 6) 1 (I 3 0 5)
def md2 (I : Im) (X : am_Z) : am_M := am_sR (am_new (md1 I X) 27 (kx (I 3 0 6)) (kx (I 3 0 6))) 6 (X.2.1 6) 2 (some (27, X.2.1 27))
def md3 (I : Im) (X : am_Z) : am_M := am_sA (md2 I X) 27 (X.2.1 27) (va_cpy ((md2 I X).1 24 0) ((md2 I X).1 27 (X.2.1 27)) 0 0 (kx (I 3 0 6)))
def md4 (I : Im) (X : am_Z) : am_M := am_sR (am_new (md3 I X) 28 (kx (I 3 0 5)) (kx (I 3 0 5))) 6 (X.2.1 6) 3 (some (28, X.2.1 28))
def mdX (I : Im) (X : am_Z) : am_Z := (X.1, (md4 I X).2.2.1, fun k => if k = X.2.1 27 then kx (I 3 0 6) else X.2.2.1 k, fun k => if k = X.2.1 28 then kx (I 3 0 5) else X.2.2.2.1 k, X.2.2.2.2.1, X.2.2.2.2.2.1 + 3, X.2.2.2.2.2.2 + 4 + kx (I 3 0 6) + kx (I 3 0 5))
set_option maxHeartbeats 4000000 in
theorem md4_mk {I : Im} {X : am_Z} (hid : IdC X) : md4 I X = mk (md4 I X).1 (mdX I X) := by
  refine Prod.ext rfl (Prod.ext ?_ (Prod.ext rfl (Prod.ext ?_ rfl)))
  · funext g k j
    show (md4 I X).2.1 g k j = st_R X.1 g k j
    by_cases h6 : g = 6
    · subst h6
      show (if k = X.2.1 6 ∧ j = 3 then some (28, X.2.1 28) else if k = X.2.1 6 ∧ j = 2 then some (27, X.2.1 27) else if k = X.2.1 6 then none else st_R X.1 6 k j) = st_R X.1 6 k j
      by_cases hk : k = X.2.1 6
      · by_cases h3 : j = 3
        · rw [if_pos ⟨hk, h3⟩, h3, hk, hid.2]; rfl
        · rw [if_neg (fun z => h3 z.2)]
          by_cases h2 : j = 2
          · rw [if_pos ⟨hk, h2⟩, h2, hk, hid.1]; rfl
          · rw [if_neg (fun z => h2 z.2), if_pos hk]
            show none = sr_6 k j
            unfold sr_6
            by_cases j3 : 3 ≤ j
            · rw [Nat.ble_eq_true_of_le j3, Nat.ble_eq_true_of_le (show 4 ≤ j by omega)]; rfl
            · have e3 : Nat.ble 3 j = false := by
                cases q : Nat.ble 3 j with
                | false => rfl
                | true => exact absurd (Nat.le_of_ble_eq_true q) j3
              have e2 : Nat.ble 2 j = false := by
                cases q : Nat.ble 2 j with
                | false => rfl
                | true => exact absurd (Nat.le_of_ble_eq_true q) (by omega)
              rw [e3, e2]; rfl
      · rw [if_neg (fun z => hk z.1), if_neg (fun z => hk z.1), if_neg hk]
    · by_cases h27 : g = 27
      · subst h27
        show (if k = X.2.1 27 then none else st_R X.1 27 k j) = st_R X.1 27 k j
        split
        · rfl
        · rfl
      · by_cases h28 : g = 28
        · subst h28
          show (if k = X.2.1 28 then none else st_R X.1 28 k j) = st_R X.1 28 k j
          split
          · rfl
          · rfl
        · simp only [md4, md3, md2, md1, am_sR, am_sA, am_sI, am_new, mk, bqf h6, bqf h27, bqf h28, cond_false]
  · funext g k
    show (md4 I X).2.2.2.1 g k = st_L X.2.2.2.2.1 (fun k => if k = X.2.1 27 then kx (I 3 0 6) else X.2.2.1 k) (fun k => if k = X.2.1 28 then kx (I 3 0 5) else X.2.2.2.1 k) g k
    by_cases h6 : g = 6
    · subst h6
      show (if k = X.2.1 6 then 0 else st_L X.2.2.2.2.1 X.2.2.1 X.2.2.2.1 6 k) = 0
      split
      · rfl
      · rfl
    · by_cases h27 : g = 27
      · subst h27; rfl
      · by_cases h28 : g = 28
        · subst h28; rfl
        · have e : (md4 I X).2.2.2.1 g k = st_L X.2.2.2.2.1 X.2.2.1 X.2.2.2.1 g k := by
            simp only [md4, md3, md2, md1, am_sR, am_sA, am_sI, am_new, mk, bqf h6, bqf h27, bqf h28, cond_false]
          rw [e]
          have r : ∀ (a a' b b' : Nat → Nat), st_L X.2.2.2.2.1 a b g k = st_L X.2.2.2.2.1 a' b' g k := fun a a' b b' => by
            unfold st_L
            cases q40 : Nat.ble 40 g with
            | true => rfl
            | false =>
              cases q26 : Nat.ble 26 g with
              | false => rfl
              | true =>
                cases q30 : Nat.ble 30 g with
                | true => rfl
                | false =>
                  have l26 := Nat.le_of_ble_eq_true q26
                  have l30 : ¬ 30 ≤ g := fun z => by rw [Nat.ble_eq_true_of_le z] at q30; cases q30
                  rcases (show g = 26 ∨ g = 29 by omega) with rfl | rfl
                  · rfl
                  · rfl
          exact r _ _ _ _
def MdP (I : Im) (X : am_Z) (I' : Im) (X' : am_Z) : Prop := I' = (md4 I X).1 ∧ X' = mdX I X
set_option maxRecDepth 100000 in
set_option maxHeartbeats 4000000 in
theorem c_X3_made {I : Im} {X : am_Z} {d : Nat} {op len : Nat} (h5 : I 3 0 5 = nI op) (h6 : I 3 0 6 = nI len) (hl : len ≤ 96) (ho : op ≤ 96) (hid : IdC X) : Sz mX3_made [.inr (.inr (some (3, 0)))] (d + 1) I X (some (.inr (.inr (some (6, X.2.1 6))))) (MdP I X) := fun g gs Q K => by
  refine am_go 400 ?_
  refine am_go 400 ?_
  refine am_f (nwE h6 (by omega)) ?_
  refine am_cut ?_
  refine am_go 5 ?_
  show am_WP ((mX6_init, 28, [some (.inr (.inr (some (6, X.2.1 6)))), some (.inl (I 3 0 4)), some (.inl (I 3 0 5)), some (.inr (.inr (some (24, 0)))), some (.inl (I 3 0 6))], [.inr (.inr ((md2 I X).2.1 6 (X.2.1 6) 2)), .inl 0, .inr (.inr (some (24, 0)))]) :: (mX3_made, 23, [some (.inr (.inr (some (3, 0))))], [.inr (.inr (some (6, X.2.1 6)))]) :: g :: gs) d (md2 I X) Q
  rw [show (md2 I X).2.1 6 (X.2.1 6) 2 = some (27, X.2.1 27) from if_pos ⟨rfl, rfl⟩]
  refine am_go 400 ?_
  have e6 : kx (I 3 0 6) = len := ix_cl h6 (by omega)
  have n6 : ¬ I 3 0 6 < 0 := fun z => absurd ((lt_nat (a := len) (b := 0) h6 rfl (by omega) (by omega)).mp z) (by omega)
  refine am_t ⟨by decide, by decide, n6, ?_, ?_⟩ ?_
  · show 0 + kx (I 3 0 6) ≤ 96
    omega
  · show 0 + kx (I 3 0 6) ≤ (if X.2.1 27 = X.2.1 27 then kx (I 3 0 6) else _)
    rw [if_pos rfl]; omega
  · refine am_f (nwE h5 (by omega)) ?_
    refine am_cut ?_
    refine am_go 400 ?_
    refine am_go 400 ?_
    show am_WP (am_psh g (some (.inr (.inr (some (6, X.2.1 6))))) :: gs) (d + 2) (md4 I X) Q
    rw [md4_mk hid]
    exact K _ _ ⟨rfl, rfl⟩
