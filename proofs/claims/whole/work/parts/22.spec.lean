/-! THE BOTTLES: what both sides compute. A bottle: its six numbers (kind years lying left crumbs warm), STRENGTH, HOLD -/
abbrev Bo : Type := (Nat → Int32) × (Nat → Int32) × (Nat → Int32)
abbrev Bn : Type := (Nat → Nat) × (Nat → Nat) × (Nat → Nat)
def RB (B : Bo) (β : Bn) : Prop := ∀ j, j < 6 → B.1 j = nI (β.1 j) ∧ B.2.1 j = nI (β.2.1 j) ∧ B.2.2 j = nI (β.2.2 j)
def GB (β : Bn) : Prop := β.1 0 ≤ 5 ∧ β.1 1 ≤ 99 ∧ β.1 2 ≤ 1 ∧ β.1 3 ≤ 6 ∧ β.1 5 ≤ 3 ∧ ∀ j, j < 6 → β.2.1 j ≤ 24 ∧ β.2.2 j ≤ 24
/-- the bottle k of the model's row; the bottle q of the class -/
def mB (S : Nat → Int32) (k : Nat) : Bo := (fun j => S (6 + 18 * k + j), fun j => S (6 + 18 * k + (6 + j)), fun j => S (6 + 18 * k + (12 + j)))
def cB (I : Nat → Nat → Nat → Int32) (q : Nat) : Bo := (fun j => I 0 q (j + 2), I 16 q, I 17 q)
def grS (B : Bo) (l : Nat) : Int32 :=
  if B.1 0 = 2 then wit (B.2.2 l - 3 * B.1 5) 24 + 3 else if B.1 0 = 3 then wit (wit (B.2.2 l - 3 * B.1 5) 24 - 4) 24 else if B.1 0 = 4 then wit (B.2.2 l - 3 * B.1 5) 24 + 4 else if B.1 0 = 5 then wit (B.2.2 l - 3 * B.1 5) 24 / 2 else wit (B.2.2 l - 3 * B.1 5) 24
def grN (β : Bn) (l : Nat) : Nat :=
  if β.1 0 = 2 then β.2.2 l - 3 * β.1 5 + 3 else if β.1 0 = 3 then β.2.2 l - 3 * β.1 5 - 4 else if β.1 0 = 4 then β.2.2 l - 3 * β.1 5 + 4 else if β.1 0 = 5 then (β.2.2 l - 3 * β.1 5) / 2 else β.2.2 l - 3 * β.1 5
theorem nI_neg {a b : Nat} (hb : b < 2 ^ 30) (h : a < b) : nI a - nI b < 0 := pk_sneg hb h
theorem wit_sub {a b m : Nat} (ha : a ≤ m) (hm : m < 2 ^ 30) (hb : b < 2 ^ 30) : wit (nI a - nI b) (nI m) = nI (a - b) := by
  unfold wit
  by_cases h : a < b
  · rw [if_pos (nI_neg hb h), show a - b = 0 by omega]; rfl
  · rw [pk_sub (by omega), if_neg (nI_pos (by omega)), if_neg (fun z => absurd ((nI_ltI (by omega) (by omega)).mp z) (by omega))]
theorem wit_nI {a m : Nat} (ha : a ≤ m) (hm : m < 2 ^ 30) : wit (nI a) (nI m) = nI a := by
  have := wit_sub (b := 0) ha hm (by decide)
  rw [show nI a - nI 0 = nI a by rw [nI_0]; simp] at this
  exact this
theorem eqv {x : Int32} {a : Nat} (c : Nat) (hx : x = nI a) (ha : a < 2 ^ 31) (hc : c < 2 ^ 31) : x = nI c ↔ a = c := by rw [hx]; exact nI_eq ha hc
theorem grS_N {B : Bo} {β : Bn} (h : RB B β) (hg : GB β) {l : Nat} (hl : l < 6) : grS B l = nI (grN β l) := by
  obtain ⟨g0, g1, g2, g3, g5, gs⟩ := hg
  have e0 := (h 0 (by omega)).1
  have e5 := (h 5 (by omega)).1
  have el := (h l hl).2.2
  have hh := (gs l hl).2
  have hv : wit (B.2.2 l - 3 * B.1 5) 24 = nI (β.2.2 l - 3 * β.1 5) := by
    rw [el, e5, show (3 : Int32) * nI (β.1 5) = nI (3 * β.1 5) from pk_mul 3 _]
    exact wit_sub (m := 24) hh (by decide) (by omega)
  unfold grS grN
  rw [hv]
  have q2 : B.1 0 = (2 : Int32) ↔ β.1 0 = 2 := eqv 2 e0 (by omega) (by decide)
  have q3 : B.1 0 = (3 : Int32) ↔ β.1 0 = 3 := eqv 3 e0 (by omega) (by decide)
  have q4 : B.1 0 = (4 : Int32) ↔ β.1 0 = 4 := eqv 4 e0 (by omega) (by decide)
  have q5 : B.1 0 = (5 : Int32) ↔ β.1 0 = 5 := eqv 5 e0 (by omega) (by decide)
  by_cases h2 : β.1 0 = 2
  · rw [if_pos (q2.mpr h2), if_pos h2]; exact nI_add _ 3
  · rw [if_neg (fun z => h2 (q2.mp z)), if_neg h2]
    by_cases h3 : β.1 0 = 3
    · rw [if_pos (q3.mpr h3), if_pos h3]
      exact wit_sub (b := 4) (m := 24) (by omega) (by decide) (by decide)
    · rw [if_neg (fun z => h3 (q3.mp z)), if_neg h3]
      by_cases h4 : β.1 0 = 4
      · rw [if_pos (q4.mpr h4), if_pos h4]; exact nI_add _ 4
      · rw [if_neg (fun z => h4 (q4.mp z)), if_neg h4]
        by_cases h5 : β.1 0 = 5
        · rw [if_pos (q5.mpr h5), if_pos h5]; exact pk_div (d := 2) (by omega) (by decide) (by decide)
        · rw [if_neg (fun z => h5 (q5.mp z)), if_neg h5]
/-- f i + .. of n of them -/
def sumG (f : Nat → Int32) : Nat → Nat → Int32
  | _, 0 => 0
  | i, n + 1 => f i + sumG f (i + 1) n
def sumN (f : Nat → Nat) : Nat → Nat → Nat
  | _, 0 => 0
  | i, n + 1 => f i + sumN f (i + 1) n
theorem sumG_N {f : Nat → Int32} {F : Nat → Nat} : ∀ {n i : Nat}, (∀ j, i ≤ j → j < i + n → f j = nI (F j)) → sumG f i n = nI (sumN F i n)
  | 0, i, _ => rfl
  | n + 1, i, h => by
    show f i + sumG f (i + 1) n = nI (F i + sumN F (i + 1) n)
    rw [h i (Nat.le_refl _) (by omega), sumG_N (fun j h1 h2 => h j (by omega) (by omega)), nI_add]
theorem sumN_le {F : Nat → Nat} {c : Nat} : ∀ {n i : Nat}, (∀ j, i ≤ j → j < i + n → F j ≤ c) → sumN F i n ≤ n * c
  | 0, i, _ => Nat.zero_le _
  | n + 1, i, h => by
    show F i + sumN F (i + 1) n ≤ (n + 1) * c
    have h1 := h i (Nat.le_refl _) (by omega)
    have h2 := sumN_le (F := F) (c := c) (n := n) (i := i + 1) (fun j a b => h j (by omega) (by omega))
    rw [Nat.succ_mul]
    omega
def gfS (B : Bo) (l : Nat) : Int32 := sumG (grS B) l (6 - l)
def gfN (β : Bn) (l : Nat) : Nat := sumN (grN β) l (6 - l)
theorem grN_le {β : Bn} (hg : GB β) {l : Nat} (hl : l < 6) : grN β l ≤ 28 := by
  have := (hg.2.2.2.2.2 l hl).2
  unfold grN
  split
  · omega
  · split
    · omega
    · split
      · omega
      · split <;> omega
theorem gfN_le {β : Bn} (hg : GB β) (l : Nat) : gfN β l ≤ 168 := by
  have := sumN_le (F := grN β) (c := 28) (n := 6 - l) (i := l) (fun j a b => grN_le hg (by omega))
  unfold gfN
  omega
theorem gfS_N {B : Bo} {β : Bn} (h : RB B β) (hg : GB β) (l : Nat) : gfS B l = nI (gfN β l) := sumG_N (fun j a b => grS_N h hg (by omega))
def wrS (k y : Int32) : Int32 := if k = 1 then y + 7 else if k = 2 then 99 - y else if k = 3 then 2 * (y + 7) else if k = 4 then 93 - y else if k = 5 then 3 else y
