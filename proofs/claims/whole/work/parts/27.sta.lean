/-! THE STATE, AND HOW EACH SIDE HOLDS IT -/
theorem up3_k {I : Nat → Nat → Nat → Int32} {g k j : Nat} {v : Int32} {g' k' : Nat} (h : g' ≠ g ∨ k' ≠ k) : up3 I g k j v g' k' = I g' k' := funext fun j' => up3_ne j' h
theorem up3_g {I : Nat → Nat → Nat → Int32} {g k j : Nat} {v : Int32} {g' : Nat} (h : g' ≠ g) : up3 I g k j v g' = I g' := funext fun k' => funext fun j' => up3_ne j' (Or.inl h)
theorem up3_s {I : Nat → Nat → Nat → Int32} {g k j : Nat} {v : Int32} : up3 I g k j v g k j = v := by rw [up3_at, if_pos rfl]
theorem up3_j {I : Nat → Nat → Nat → Int32} {g k j j' : Nat} {v : Int32} (h : j' ≠ j) : up3 I g k j v g k j' = I g k j' := by rw [up3_at, if_neg h]
/-- a text: its key, its operands, its steps -/
abbrev Tx : Type := Nat × Nat × List (Nat × Nat)
/-- what an image keeps: cellar, how many texts, texts -/
abbrev Ce : Type := Cn × Nat × (Nat → Tx)
/-- a sheet: sort, size, places -/
abbrev Ro : Type := Int32 × Nat × (Nat → Int32)
/-- a slot: thing, kind or number, years, size, places -/
abbrev Sl : Type := Nat × Int32 × Int32 × Nat × (Nat → Int32)
abbrev St : Type := Ce × Option Ce × (Nat → Ro) × (Nat → Sl) × (Nat × (Nat → Int32)) × (Nat × (Nat → Nat))
abbrev Im : Type := Nat → Nat → Nat → Int32
/-- the last of n texts that has the key -/
def lastT (tx : Nat → Tx) (key : Nat) : Nat → Option Nat
  | 0 => none
  | n + 1 => if (tx n).1 = key then some n else lastT tx key n
def oI : Option Nat → Int32
  | none => -1000000005
  | some t => nI t
/-- a step: (0, number) (1, name) (2, sign; 9 is not), as the class and as the model write it -/
def enC (p : Nat × Nat) : Int32 := if p.1 = 0 then nI p.2 else if p.1 = 1 then -1 - nI p.2 else -10 - nI p.2
def enM (key : Nat) (p : Nat × Nat) : Nat := if p.1 = 0 then p.2 else if p.1 = 1 then (if key = 0 then [115, 121, 108] else if key = 1 then [99, 121] else [121, 108]).getD p.2 0 else [124, 38, 60, 61, 62, 43, 45, 42, 47, 33].getD p.2 0
/-- the class's texts -/
def TxC (I : Im) (X : am_Z) (id : Nat) (t : Tx) : Prop := id < X.2.1 6 ∧ I 6 id fX6_key = nI t.1 ∧ I 6 id fX6_operands = nI t.2.1 ∧ X.2.2.1 id = t.2.2.length ∧ X.2.2.2.1 id = t.2.1 ∧ ∀ k, k < t.2.2.length → I 27 id k = enC (t.2.2.getD k (0, 0))
def TsC (I : Im) (X : am_Z) (c : Nat) (nt : Nat) (tx : Nat → Tx) : Prop := I 1 c fX1_textCount = nI nt ∧ (∀ key, key < 3 → I 18 c key = oI (lastT tx key nt)) ∧ ∀ t, t < nt → ∃ id, X.1 c t = some (6, id) ∧ TxC I X id (tx t)
def CeC (I : Im) (X : am_Z) (c : Nat) (e : Ce) : Prop := RepC I c e.1 ∧ TsC I X c e.2.1 e.2.2
def RoC (I : Im) (k : Nat) (r : Ro) : Prop := I 4 k fX4_sort = r.1 ∧ I 4 k fX4_size = nI r.2.1 ∧ ∀ j, j < 24 → I 25 k j = r.2.2 j
def SlC (I : Im) (k : Nat) (s : Sl) : Prop := I 5 k fX5_thing = nI s.1 ∧ (s.1 = 1 → I 5 k fX5_kind = s.2.1 ∧ I 5 k fX5_years = s.2.2.1) ∧ (s.1 = 2 → I 4 (k + 4) fX4_size = nI s.2.2.2.1 ∧ ∀ j, j < 24 → I 25 (k + 4) j = s.2.2.2.2 j) ∧ (s.1 = 3 → I 5 k fX5_number = s.2.1)
def WtC (I : Im) (w : Nat × (Nat → Int32)) : Prop := I 7 0 fX7_waitingCount = nI w.1 ∧ ∀ j, j < w.1 → I 26 0 j = w.2 j
def TpC (I : Im) (t : Nat × (Nat → Nat)) : Prop := I 3 0 fX3_size = nI t.1 ∧ ∀ j, j < t.1 → I 23 0 j = nI (t.2 j)
def ImC (I : Im) (X : am_Z) : Option Ce → Prop
  | none => I 7 0 fX7_imageKept = 0
  | some e => I 7 0 fX7_imageKept = 1 ∧ CeC I X 1 e
def NkC (I : Im) : Prop := I 20 0 6 = 0 ∧ I 21 0 0 = 0 ∧ I 22 0 0 = 0
def IdC (X : am_Z) : Prop := X.2.1 27 = X.2.1 6 ∧ X.2.1 28 = X.2.1 6
def RC (I : Im) (X : am_Z) (s : St) : Prop := CeC I X 0 s.1 ∧ ImC I X s.2.1 ∧ (∀ k, k < 4 → RoC I k (s.2.2.1 k)) ∧ (∀ k, k < 5 → SlC I k (s.2.2.2.1 k)) ∧ WtC I s.2.2.2.2.1 ∧ TpC I s.2.2.2.2.2 ∧ NkC I ∧ IdC X
/-- the model's -/
def TxM (S : Nat → Int32) (t : Nat) (x : Tx) : Prop := S (150 + 200 * t) = nI x.1 ∧ S (150 + 200 * t + 1) = nI x.2.1 ∧ S (150 + 200 * t + 2) = nI x.2.2.length ∧ ∀ k, k < x.2.2.length → S (150 + 200 * t + 4 + 2 * k) = nI (x.2.2.getD k (0, 0)).1 ∧ S (150 + 200 * t + 4 + 2 * k + 1) = nI (enM x.1 (x.2.2.getD k (0, 0)))
def CeM (S : Nat → Int32) (e : Ce) : Prop := RepM S e.1 ∧ S 1 = nI e.2.1 ∧ ∀ t, t < e.2.1 → TxM S t (e.2.2 t)
def ImM (I : Im) : Option Ce → Prop
  | none => I 8 0 fX8_hasImage = 0
  | some e => I 8 0 fX8_hasImage = 1 ∧ CeM (I 31 0) e
def RoM (I : Im) (k : Nat) (r : Ro) : Prop := I 33 0 k = r.1 ∧ I 34 0 k = nI r.2.1 ∧ ∀ j, j < 24 → I 35 0 (24 * k + j) = r.2.2 j
def SlM (I : Im) (k : Nat) (s : Sl) : Prop := I 36 0 k = nI s.1 ∧ (s.1 = 1 → I 37 0 k = s.2.1 ∧ I 38 0 k = wrS s.2.1 s.2.2.1) ∧ (s.1 = 2 → I 39 0 k = nI s.2.2.2.1 ∧ ∀ j, j < 24 → I 40 0 (24 * k + j) = s.2.2.2.2 j) ∧ (s.1 = 3 → I 37 0 k = s.2.1)
def WtM (I : Im) (w : Nat × (Nat → Int32)) : Prop := I 8 0 fX8_waiting = nI w.1 ∧ ∀ j, j < w.1 → I 48 0 j = w.2 j
def TpM (I : Im) (t : Nat × (Nat → Nat)) : Prop := I 8 0 fX8_taped = nI t.1 ∧ ∀ j, j < t.1 → I 44 0 j = nI (t.2 j)
def RM (I : Im) (s : St) : Prop := CeM (I 30 0) s.1 ∧ ImM I s.2.1 ∧ (∀ k, k < 4 → RoM I k (s.2.2.1 k)) ∧ (∀ k, k < 5 → SlM I k (s.2.2.2.1 k)) ∧ WtM I s.2.2.2.2.1 ∧ TpM I s.2.2.2.2.2
/-- what stays within its bounds; steps can be worked out with n waiting, and then 1 waits -/
def wfS : Nat → List (Nat × Nat) → Prop
  | n, [] => n = 1
  | n, p :: ps => if p.1 = 2 then (if p.2 = 9 then 1 ≤ n ∧ wfS n ps else p.2 < 9 ∧ 2 ≤ n ∧ wfS (n - 1) ps) else p.1 < 2 ∧ wfS (n + 1) ps
def GT (t : Tx) : Prop := t.1 < 3 ∧ t.2.2.length ≤ 96 ∧ wfS 0 t.2.2 ∧ t.2.1 = (t.2.2.filter (fun p => p.1 != 2)).length ∧ ∀ p, p ∈ t.2.2 → (p.1 = 0 → p.2 ≤ 9999) ∧ (p.1 = 1 → p.2 < (if t.1 = 0 then 3 else 2))
def GE (e : Ce) : Prop := GC e.1 ∧ e.1.2.1 0 ≤ 9999 ∧ e.2.1 ≤ 14 ∧ ∀ t, t < e.2.1 → GT (e.2.2 t)
def GR (r : Ro) : Prop := (r.1 = -1 ∧ r.2.1 = 0 ∨ r.1 = 0 ∨ r.1 = 1) ∧ r.2.1 ≤ 24
def GS (s : St) : Prop := GE s.1 ∧ (∀ e, s.2.1 = some e → GE e) ∧ (∀ k, k < 4 → GR (s.2.2.1 k)) ∧ (∀ k, k < 5 → (s.2.2.2.1 k).1 ≤ 3 ∧ (s.2.2.2.1 k).2.2.2.1 ≤ 24 ∧ ((s.2.2.2.1 k).1 = 1 → ∃ a, a ≤ 5 ∧ (s.2.2.2.1 k).2.1 = nI a)) ∧ s.2.2.2.2.1.1 ≤ 60 ∧ s.2.2.2.2.2.1 ≤ 96 ∧ ∀ j, j < s.2.2.2.2.2.1 → s.2.2.2.2.2.2 j < 256
/-- groups of the model and the script -/
def mg (g : Nat) : Bool := g == 8 || (Nat.ble 30 g && Nat.ble g 49) || g == 96
def FrC (I : Im) (X : am_Z) (I' : Im) (X' : am_Z) : Prop := (∀ g, mg g = true → I' g = I g) ∧ X'.2.2.2.2.1 = X.2.2.2.2.1 ∧ X'.2.2.2.2.2.1 ≤ X.2.2.2.2.2.1 + 3 ∧ X'.2.2.2.2.2.2 ≤ X.2.2.2.2.2.2 + 300
def FrM (I I' : Im) : Prop := ∀ g, (Nat.ble g 7 || Nat.ble 16 g && Nat.ble g 28 || g == 96) = true → I' g = I g
theorem FrC_r {I X} : FrC I X I X := ⟨fun _ _ => rfl, rfl, by omega, by omega⟩
theorem FrC_3 {I X I' g k j v} (hg : mg g = false) (h : FrC I X I' X) : FrC I X (up3 I' g k j v) X := ⟨fun g' hg' => by rw [up3_g (fun e => by rw [e, hg] at hg'; cases hg')]; exact h.1 g' hg', h.2⟩
theorem FrM_r {I} : FrM I I := fun _ _ => rfl
theorem FrM_3 {I I' g k j v} (hg : (Nat.ble g 7 || Nat.ble 16 g && Nat.ble g 28 || g == 96) = false) (h : FrM I I') : FrM I (up3 I' g k j v) := fun g' hg' => by rw [up3_g (fun e => by rw [e, hg] at hg'; cases hg')]; exact h g' hg'
/-- a call answers v, and leaves I', X' -/
def Sp (mid : Nat) (as : List am_V) (d : Nat) (I : Im) (X : am_Z) (P : Int32 → Im → am_Z → Prop) : Prop := ∀ (g : am_F) (gs : List am_F) (Q : Option am_V → am_M → Prop), (∀ v I' X', P v I' X' → am_WP (am_psh g (some (.inl v)) :: gs) (d + 1) (mk I' X') Q) → am_WP (am_entry mid as :: g :: gs) d (mk I X) Q
/-- what a public call owes on the class's side and on the model's -/
def OC (I : Im) (X : am_Z) (r : Int32 × St) : Int32 → Im → am_Z → Prop := fun v I' X' => v = r.1 ∧ RC I' X' r.2 ∧ FrC I X I' X'
def OM (I : Im) (X : am_Z) (r : Int32 × St) : Int32 → Im → am_Z → Prop := fun v I' X' => v = r.1 ∧ RM I' r.2 ∧ FrM I I' ∧ X' = X
theorem K_s {g : am_F} {gs : List am_F} {d : Nat} {P : Int32 → Im → am_Z → Prop} {Q : Option am_V → am_M → Prop} (K : ∀ v I' X', P v I' X' → am_WP (am_psh g (some (.inl v)) :: gs) d (mk I' X') Q) {v I' X'} (h : P v I' X') : am_WP (am_psh g (some (.inl v)) :: gs) d (mk I' X') Q := K _ _ _ h
