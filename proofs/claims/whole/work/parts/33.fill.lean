/-! FILLED STRETCHES OF ROWS -/
def fl (I : Im) (g k b i : Nat) (f : Nat → Int32) : Im := fun g' k' j' => cond (Nat.beq g' g) (if k' = k ∧ b ≤ j' ∧ j' < b + i then f (j' - b) else I g' k' j') (I g' k' j')
theorem fl_at {I : Im} {g k b i : Nat} {f : Nat → Int32} (j : Nat) : fl I g k b i f g k j = if b ≤ j ∧ j < b + i then f (j - b) else I g k j := by
  unfold fl
  rw [show Nat.beq g g = true from Nat.beq_refl g]
  simp
theorem fl_k {I : Im} {g k b i : Nat} {f : Nat → Int32} {g' k' : Nat} (h : g' ≠ g ∨ k' ≠ k) : fl I g k b i f g' k' = I g' k' := by
  funext j'
  unfold fl
  cases hb : Nat.beq g' g with
  | false => rfl
  | true =>
    have e : g' = g := Nat.eq_of_beq_eq_true hb
    have h2 : k' ≠ k := h.resolve_left (fun z => z e)
    simp [h2]
theorem fl_g {I : Im} {g k b i : Nat} {f : Nat → Int32} {g' : Nat} (h : g' ≠ g) : fl I g k b i f g' = I g' := funext fun _ => fl_k (Or.inl h)
theorem fl_0 {I : Im} {g k b : Nat} {f : Nat → Int32} : fl I g k b 0 f = I := by
  funext g' k' j'
  unfold fl
  rw [if_neg (fun z => by omega)]
  cases Nat.beq g' g <;> rfl
theorem fl_s {I : Im} {g k b i : Nat} {f : Nat → Int32} {v : Int32} (hv : v = f i) : up3 (fl I g k b i f) g k (b + i) v = fl I g k b (i + 1) f := by
  funext g' k' j'
  by_cases hg : g' = g
  · subst hg
    by_cases hk : k' = k
    · subst hk
      rw [up3_at, fl_at, fl_at]
      by_cases e : j' = b + i
      · rw [if_pos e, if_pos (by omega), hv, show j' - b = i by omega]
      · rw [if_neg e]
        by_cases q : b ≤ j' ∧ j' < b + i
        · rw [if_pos q, if_pos (by omega)]
        · rw [if_neg q, if_neg (by omega)]
    · rw [up3_ne _ (Or.inr hk), fl_k (Or.inr hk), fl_k (Or.inr hk)]
  · rw [up3_ne _ (Or.inl hg), fl_k (Or.inl hg), fl_k (Or.inl hg)]
theorem fl_i {I : Im} {g k b i j : Nat} {f : Nat → Int32} (h : j < i) : fl I g k b i f g k (b + j) = f j := by
  rw [fl_at, if_pos (by omega), show b + j - b = j by omega]
theorem fl_out {I : Im} {g k b i j : Nat} {f : Nat → Int32} (h : j < b ∨ b + i ≤ j) : fl I g k b i f g k j = I g k j := by
  rw [fl_at, if_neg (by omega)]
theorem FrC_f {I X I' g k b i f} (hg : mg g = false) (h : FrC I X I' X) : FrC I X (fl I' g k b i f) X := ⟨fun g' hg' => by rw [fl_g (fun e => by rw [e, hg] at hg'; cases hg')]; exact h.1 g' hg', h.2⟩
theorem FrM_f {I I' g k b i f} (hg : (Nat.ble g 7 || Nat.ble 16 g && Nat.ble g 28 || g == 96) = false) (h : FrM I I') : FrM I (fl I' g k b i f) := fun g' hg' => by rw [fl_g (fun e => by rw [e, hg] at hg'; cases hg')]; exact h g' hg'
