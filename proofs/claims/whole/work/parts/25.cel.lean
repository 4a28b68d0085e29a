/-! CELLARS: how many bottles, (year, humid, wear), z, the bottles -/
abbrev Cn : Type := Nat × (Nat → Nat) × Int32 × (Nat → Bn)
def RepM (S : Nat → Int32) (σ : Cn) : Prop := S 0 = nI σ.1 ∧ S 2 = nI (σ.2.1 0) ∧ S 3 = nI (σ.2.1 1) ∧ S 4 = nI (σ.2.1 2) ∧ S 5 = σ.2.2.1 ∧ ∀ k, k < σ.1 → RB (mB S k) (σ.2.2.2 k)
def RepC (I : Nat → Nat → Nat → Int32) (c : Nat) (σ : Cn) : Prop := I 1 c fX1_count = nI σ.1 ∧ I 1 c fX1_year = nI (σ.2.1 0) ∧ I 1 c fX1_humid = nI (σ.2.1 1) ∧ I 1 c fX1_wear = nI (σ.2.1 2) ∧ I 1 c fX1_z = σ.2.2.1 ∧ ∀ k, k < σ.1 → RB (cB I (k + 8 * c)) (σ.2.2.2 k)
def GC (σ : Cn) : Prop := σ.1 ≤ 8 ∧ σ.2.1 0 ≤ 100000 ∧ σ.2.1 1 ≤ 100 ∧ σ.2.1 2 ≤ 5 ∧ ∀ k, k < σ.1 → GB (σ.2.2.2 k)
def fu {α : Type} (f : Nat → α) (k : Nat) (v : α) : Nat → α := fun j => if j = k then v else f j
theorem fu_s {α : Type} {f : Nat → α} {k : Nat} {v : α} : fu f k v k = v := by simp [fu]
theorem fu_n {α : Type} {f : Nat → α} {k j : Nat} {v : α} (h : j ≠ k) : fu f k v j = f j := by simp [fu, h]
/-- one number of a bottle becomes v: among the six, STRENGTH, HOLD -/
def b0 (β : Bn) (j v : Nat) : Bn := (fu β.1 j v, β.2.1, β.2.2)
def b1 (β : Bn) (j v : Nat) : Bn := (β.1, fu β.2.1 j v, β.2.2)
def b2 (β : Bn) (j v : Nat) : Bn := (β.1, β.2.1, fu β.2.2 j v)
def setB (σ : Cn) (k : Nat) (β : Bn) : Cn := (σ.1, σ.2.1, σ.2.2.1, fu σ.2.2.2 k β)
def setZ (σ : Cn) (z : Int32) : Cn := (σ.1, σ.2.1, z, σ.2.2.2)
def setH (σ : Cn) (j v : Nat) : Cn := (σ.1, fu σ.2.1 j v, σ.2.2.1, σ.2.2.2)
theorem RB_0 {B B' : Bo} {β : Bn} {j v : Nat} {x : Int32} (h : RB B β) (hx : x = nI v) (h0 : ∀ i, i < 6 → B'.1 i = if i = j then x else B.1 i) (h1 : ∀ i, i < 6 → B'.2.1 i = B.2.1 i) (h2 : ∀ i, i < 6 → B'.2.2 i = B.2.2 i) : RB B' (b0 β j v) := by
  intro i hi
  refine ⟨?_, (h1 i hi).trans (h i hi).2.1, (h2 i hi).trans (h i hi).2.2⟩
  rw [h0 i hi]
  show _ = nI (if i = j then v else β.1 i)
  split
  · exact hx
  · exact (h i hi).1
theorem RB_1 {B B' : Bo} {β : Bn} {j v : Nat} {x : Int32} (h : RB B β) (hx : x = nI v) (h0 : ∀ i, i < 6 → B'.1 i = B.1 i) (h1 : ∀ i, i < 6 → B'.2.1 i = if i = j then x else B.2.1 i) (h2 : ∀ i, i < 6 → B'.2.2 i = B.2.2 i) : RB B' (b1 β j v) := by
  intro i hi
  refine ⟨(h0 i hi).trans (h i hi).1, ?_, (h2 i hi).trans (h i hi).2.2⟩
  rw [h1 i hi]
  show _ = nI (if i = j then v else β.2.1 i)
  split
  · exact hx
  · exact (h i hi).2.1
theorem RB_2 {B B' : Bo} {β : Bn} {j v : Nat} {x : Int32} (h : RB B β) (hx : x = nI v) (h0 : ∀ i, i < 6 → B'.1 i = B.1 i) (h1 : ∀ i, i < 6 → B'.2.1 i = B.2.1 i) (h2 : ∀ i, i < 6 → B'.2.2 i = if i = j then x else B.2.2 i) : RB B' (b2 β j v) := by
  intro i hi
  refine ⟨(h0 i hi).trans (h i hi).1, (h1 i hi).trans (h i hi).2.1, ?_⟩
  rw [h2 i hi]
  show _ = nI (if i = j then v else β.2.2 i)
  split
  · exact hx
  · exact (h i hi).2.2
theorem RB_same {B B' : Bo} {β : Bn} (h : RB B β) (h0 : ∀ i, i < 6 → B'.1 i = B.1 i) (h1 : ∀ i, i < 6 → B'.2.1 i = B.2.1 i) (h2 : ∀ i, i < 6 → B'.2.2 i = B.2.2 i) : RB B' β := fun i hi => ⟨(h0 i hi).trans (h i hi).1, (h1 i hi).trans (h i hi).2.1, (h2 i hi).trans (h i hi).2.2⟩
theorem up3_at {I : Nat → Nat → Nat → Int32} {g k j : Nat} {v : Int32} (j' : Nat) : up3 I g k j v g k j' = if j' = j then v else I g k j' := by
  unfold up3
  rw [show Nat.beq g g = true from Nat.beq_refl g]
  simp
theorem up3_ne {I : Nat → Nat → Nat → Int32} {g k j : Nat} {v : Int32} {g' k' : Nat} (j' : Nat) (h : g' ≠ g ∨ k' ≠ k) : up3 I g k j v g' k' j' = I g' k' j' := by
  unfold up3
  cases hb : Nat.beq g' g with
  | false => rfl
  | true =>
    have e : g' = g := Nat.eq_of_beq_eq_true hb
    have h2 : k' ≠ k := h.resolve_left (fun z => z e)
    simp [h2]
/-- the model's row with one number of bottle k changed -/
theorem RepM_w {S S' : Nat → Int32} {σ : Cn} {k i : Nat} {x : Int32} {β' : Bn} (h : RepM S σ) (hS : ∀ j, S' j = if j = 6 + 18 * k + i then x else S j) (hi : i < 18) (hb : RB (mB S' k) β') : RepM S' (setB σ k β') := by
  obtain ⟨h0, h2, h3, h4, h5, hB⟩ := h
  have ne : ∀ j, j < 6 → S' j = S j := fun j hj => by rw [hS, if_neg (by omega)]
  refine ⟨by rw [ne 0 (by omega)]; exact h0, by rw [ne 2 (by omega)]; exact h2, by rw [ne 3 (by omega)]; exact h3, by rw [ne 4 (by omega)]; exact h4, by rw [ne 5 (by omega)]; exact h5, fun k' hk' => ?_⟩
  show RB (mB S' k') (fu σ.2.2.2 k β' k')
  by_cases e : k' = k
  · subst e
    rw [fu_s]; exact hb
  · rw [fu_n e]
    refine RB_same (hB k' hk') (fun j hj => ?_) (fun j hj => ?_) (fun j hj => ?_)
    · show S' _ = S _; rw [hS, if_neg (by omega)]
    · show S' _ = S _; rw [hS, if_neg (by omega)]
    · show S' _ = S _; rw [hS, if_neg (by omega)]
theorem RepM_w0 {S S' : Nat → Int32} {σ : Cn} {k i v : Nat} {x : Int32} (h : RepM S σ) (hk : k < σ.1) (hS : ∀ j, S' j = if j = 6 + 18 * k + i then x else S j) (hi : i < 6) (hx : x = nI v) : RepM S' (setB σ k (b0 (σ.2.2.2 k) i v)) :=
  RepM_w h hS (by omega) (RB_0 (h.2.2.2.2.2 k hk) hx (fun j hj => by
    show S' _ = if j = i then x else S _
    rw [hS]
    by_cases e : j = i
    · rw [if_pos (by omega), if_pos e]
    · rw [if_neg (by omega), if_neg e]) (fun j hj => by show S' _ = S _; rw [hS, if_neg (by omega)]) (fun j hj => by show S' _ = S _; rw [hS, if_neg (by omega)]))
theorem RepM_w1 {S S' : Nat → Int32} {σ : Cn} {k i v : Nat} {x : Int32} (h : RepM S σ) (hk : k < σ.1) (hS : ∀ j, S' j = if j = 6 + 18 * k + (6 + i) then x else S j) (hi : i < 6) (hx : x = nI v) : RepM S' (setB σ k (b1 (σ.2.2.2 k) i v)) :=
  RepM_w h hS (by omega) (RB_1 (h.2.2.2.2.2 k hk) hx (fun j hj => by show S' _ = S _; rw [hS, if_neg (by omega)]) (fun j hj => by
    show S' _ = if j = i then x else S _
    rw [hS]
    by_cases e : j = i
    · rw [if_pos (by omega), if_pos e]
    · rw [if_neg (by omega), if_neg e]) (fun j hj => by show S' _ = S _; rw [hS, if_neg (by omega)]))
theorem RepM_w2 {S S' : Nat → Int32} {σ : Cn} {k i v : Nat} {x : Int32} (h : RepM S σ) (hk : k < σ.1) (hS : ∀ j, S' j = if j = 6 + 18 * k + (12 + i) then x else S j) (hi : i < 6) (hx : x = nI v) : RepM S' (setB σ k (b2 (σ.2.2.2 k) i v)) :=
  RepM_w h hS (by omega) (RB_2 (h.2.2.2.2.2 k hk) hx (fun j hj => by show S' _ = S _; rw [hS, if_neg (by omega)]) (fun j hj => by show S' _ = S _; rw [hS, if_neg (by omega)]) (fun j hj => by
    show S' _ = if j = i then x else S _
    rw [hS]
    by_cases e : j = i
    · rw [if_pos (by omega), if_pos e]
    · rw [if_neg (by omega), if_neg e]))
theorem RepM_z {S S' : Nat → Int32} {σ : Cn} {x : Int32} (h : RepM S σ) (hS : ∀ j, S' j = if j = 5 then x else S j) : RepM S' (setZ σ x) := by
  obtain ⟨h0, h2, h3, h4, h5, hB⟩ := h
  refine ⟨(by rw [hS]; exact h0), (by rw [hS]; exact h2), (by rw [hS]; exact h3), (by rw [hS]; exact h4), (by rw [hS]; rfl), fun k hk => RB_same (hB k hk) (fun j hj => ?_) (fun j hj => ?_) (fun j hj => ?_)⟩
  · show S' _ = S _; rw [hS, if_neg (by omega)]
  · show S' _ = S _; rw [hS, if_neg (by omega)]
  · show S' _ = S _; rw [hS, if_neg (by omega)]
