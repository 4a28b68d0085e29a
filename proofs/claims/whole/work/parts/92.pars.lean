/-! THE PARSER: tokens (kind, start, end): 0 the end, 1 letters, 2 digits, 3 a sign, 4 a word that needs a blank; steps as they are laid -/
abbrev Tk : Type := Nat × Nat × Nat
abbrev Pa : Type := Tk × List (Nat × Nat)
def fm (b : Nat) : Nat := if 97 ≤ b ∧ b ≤ 122 then 1 else if 48 ≤ b ∧ b ≤ 57 then 2 else 3
def skB (t : Nat → Nat) : Nat → Nat → Nat
  | 0, i => i
  | m + 1, i => if t i = 32 then skB t m (i + 1) else i
def scF (t : Nat → Nat) (f : Nat) : Nat → Nat → Nat
  | 0, i => i
  | m + 1, i => if fm (t i) = f then scF t f m (i + 1) else i
def nxS (t : Nat → Nat) (n e : Nat) : Nat := skB t (n - e) e
def nxE (t : Nat → Nat) (n st : Nat) : Nat := if fm (t st) = 3 then st + 1 else scF t (fm (t st)) (n - (st + 1)) (st + 1)
def nxK (t : Nat → Nat) (k e st : Nat) : Nat := if (k = 1 ∨ k = 2) ∧ ¬ fm (t st) = 3 ∧ st = e then 4 else fm (t st)
def nxT (t : Nat → Nat) (n : Nat) (tk : Tk) : Tk := if nxS t n tk.2.2 < n then (nxK t tk.1 tk.2.2 (nxS t n tk.2.2), nxS t n tk.2.2, nxE t n (nxS t n tk.2.2)) else (0, nxS t n tk.2.2, nxS t n tk.2.2)
def Wt (t : Nat → Nat) (n : Nat) (tk : Tk) : Prop := tk.2.1 ≤ tk.2.2 ∧ tk.2.2 ≤ n ∧ tk.1 ≤ 4 ∧ (¬ tk.1 = 0 → tk.2.1 < tk.2.2) ∧ (tk.1 = 3 → tk.2.2 = tk.2.1 + 1) ∧ (tk.1 = 1 ∨ tk.1 = 2 → ∀ j, tk.2.1 ≤ j → j < tk.2.2 → fm (t j) = tk.1)
theorem fm_c (b : Nat) : fm b = 1 ∨ fm b = 2 ∨ fm b = 3 := by
  unfold fm; split
  · exact Or.inl rfl
  · split
    · exact Or.inr (Or.inl rfl)
    · exact Or.inr (Or.inr rfl)
theorem fm_2 {b : Nat} (h : fm b = 2) : 48 ≤ b ∧ b ≤ 57 := by
  unfold fm at h
  split at h
  · cases h
  · split at h
    · assumption
    · cases h
theorem fm_1 {b : Nat} (h : fm b = 1) : 97 ≤ b ∧ b ≤ 122 := by
  unfold fm at h
  split at h
  · assumption
  · split at h <;> cases h
theorem skB_b (t : Nat → Nat) : ∀ (m i : Nat), i ≤ skB t m i ∧ skB t m i ≤ i + m
  | 0, i => ⟨Nat.le_refl _, Nat.le_refl _⟩
  | m + 1, i => by
    rw [skB]
    have := skB_b t m (i + 1)
    split
    · exact ⟨by omega, by omega⟩
    · exact ⟨by omega, by omega⟩
theorem scF_b (t : Nat → Nat) (f : Nat) : ∀ (m i : Nat), i ≤ scF t f m i ∧ scF t f m i ≤ i + m ∧ ∀ j, i ≤ j → j < scF t f m i → fm (t j) = f
  | 0, i => ⟨Nat.le_refl _, Nat.le_refl _, fun j a b => absurd b (by rw [scF]; omega)⟩
  | m + 1, i => by
    rw [scF]
    have := scF_b t f m (i + 1)
    split
    · refine ⟨by omega, by omega, fun j a b => ?_⟩
      by_cases e : j = i
      · rw [e]; assumption
      · exact this.2.2 j (by omega) b
    · exact ⟨by omega, by omega, fun j a b => by omega⟩
theorem nxS_b {t : Nat → Nat} {n e : Nat} (h : e ≤ n) : e ≤ nxS t n e ∧ nxS t n e ≤ n := by
  have := skB_b t (n - e) e
  unfold nxS
  omega
theorem nxE_b {t : Nat → Nat} {n st : Nat} (h : st < n) : st < nxE t n st ∧ nxE t n st ≤ n ∧ (¬ fm (t st) = 3 → ∀ j, st ≤ j → j < nxE t n st → fm (t j) = fm (t st)) := by
  unfold nxE
  split
  · exact ⟨by omega, by omega, fun z => absurd ‹_› z⟩
  · have := scF_b t (fm (t st)) (n - (st + 1)) (st + 1)
    refine ⟨by omega, by omega, fun _ j a b => ?_⟩
    by_cases e : j = st
    · rw [e]
    · exact this.2.2 j (by omega) b
theorem nxT_W {t : Nat → Nat} {n : Nat} {tk : Tk} (h : tk.2.2 ≤ n) : Wt t n (nxT t n tk) ∧ tk.2.2 ≤ (nxT t n tk).2.1 ∧ (nxT t n tk).2.1 ≤ n := by
  have hb := nxS_b (t := t) h
  unfold nxT
  split
  · rename_i q
    have he := nxE_b (t := t) q
    have hf := fm_c (t (nxS t n tk.2.2))
    refine ⟨⟨Nat.le_of_lt he.1, he.2.1, ?_, fun _ => he.1, fun z => ?_, fun z => ?_⟩, hb.1, hb.2⟩
    · show nxK t tk.1 tk.2.2 _ ≤ 4
      unfold nxK; split
      · exact Nat.le_refl _
      · omega
    · have z : nxK t tk.1 tk.2.2 (nxS t n tk.2.2) = 3 := z
      unfold nxK at z
      split at z
      · cases z
      · show nxE t n (nxS t n tk.2.2) = nxS t n tk.2.2 + 1
        unfold nxE; rw [if_pos z]
    · have z : nxK t tk.1 tk.2.2 (nxS t n tk.2.2) = 1 ∨ nxK t tk.1 tk.2.2 (nxS t n tk.2.2) = 2 := z
      show ∀ j, nxS t n tk.2.2 ≤ j → j < nxE t n (nxS t n tk.2.2) → fm (t j) = nxK t tk.1 tk.2.2 (nxS t n tk.2.2)
      unfold nxK at z ⊢
      split at z
      · rcases z with z | z <;> cases z
      · rename_i c
        rw [if_neg c]
        exact he.2.2 (by omega)
  · refine ⟨⟨Nat.le_refl _, hb.2, Nat.zero_le _, fun z => absurd rfl z, (fun z => by cases z), (fun z => by rcases z with z | z <;> cases z)⟩, hb.1, hb.2⟩
/-- the digits' number -/
def numV (t : Nat → Nat) : Nat → Nat → Nat → Nat
  | 0, _, a => a
  | m + 1, i, a => numV t m (i + 1) (a * 10 + t i - 48)
theorem numV_b {t : Nat → Nat} : ∀ (m i a w : Nat), (∀ j, i ≤ j → j < i + m → fm (t j) = 2) → a + 1 ≤ w → numV t m i a + 1 ≤ w * 10 ^ m
  | 0, i, a, w, _, h => by rw [numV, Nat.pow_zero, Nat.mul_one]; exact h
  | m + 1, i, a, w, hf, h => by
    have h1 := fm_2 (hf i (Nat.le_refl _) (by omega))
    have := numV_b m (i + 1) (a * 10 + t i - 48) (w * 10) (fun j p q => hf j (by omega) (by omega)) (by omega)
    rw [numV, Nat.pow_succ, Nat.mul_comm (10 ^ m) 10, ← Nat.mul_assoc]
    exact this
def sgI (b : Nat) : Nat := if b = 124 then 0 else if b = 38 then 1 else if b = 60 then 2 else if b = 61 then 3 else if b = 62 then 4 else if b = 43 then 5 else if b = 45 then 6 else if b = 42 then 7 else if b = 47 then 8 else 9
def lvI (i : Nat) : Nat := if i = 0 then 0 else if i = 1 then 1 else if i ≤ 4 then 2 else if i ≤ 6 then 3 else if i ≤ 8 then 4 else 9
def sgA (t : Nat → Nat) (lv : Nat) (tk : Tk) : Option Nat := if tk.1 = 3 ∧ lvI (sgI (t tk.2.1)) = lv then some (sgI (t tk.2.1)) else none
def nmI (key b : Nat) : Option Nat := if key = 0 then (if b = 115 then some 0 else if b = 121 then some 1 else if b = 108 then some 2 else none) else if key = 1 then (if b = 99 then some 0 else if b = 121 then some 1 else none) else (if b = 121 then some 0 else if b = 108 then some 1 else none)
def nmA (t : Nat → Nat) (key : Nat) (tk : Tk) : Option Nat := if tk.2.2 - tk.2.1 = 1 then nmI key (t tk.2.1) else none
/-- the loop of a level -/
def lpL (rc : Pa → Bool × Pa) (nx : Tk → Tk) (sg : Tk → Option Nat) (once : Bool) : Nat → Pa → Bool × Pa
  | 0, p => (true, p)
  | m + 1, p => match sg p.1 with
    | none => (true, p)
    | some i => match rc (nx p.1, p.2) with
      | (false, q) => (false, q)
      | (true, q) => if once = true then (true, (q.1, q.2 ++ [(2, i)])) else lpL rc nx sg once m (q.1, q.2 ++ [(2, i)])
/-- levels 0 .. 4, a piece (5); F: how deep calls may go -/
def pz (t : Nat → Nat) (n key : Nat) : Nat → Nat → Nat → Nat → Pa → Bool × Pa
  | 0, _, _, _, p => (false, p)
  | F + 1, lv, ro, no, p =>
    if lv ≤ 4 then
      match pz t n key F (lv + 1) ro no p with
      | (false, q) => (false, q)
      | (true, q) => lpL (pz t n key F (lv + 1) ro no) (nxT t n) (sgA t lv) (lv == 2) 96 q
    else if p.1.1 = 2 then
      (if 4 < p.1.2.2 - p.1.2.1 then (false, p) else (true, (nxT t n p.1, p.2 ++ [(0, numV t (p.1.2.2 - p.1.2.1) p.1.2.1 0)])))
    else if p.1.1 = 1 then
      match nmA t key p.1 with
      | none => (false, p)
      | some i => (true, (nxT t n p.1, p.2 ++ [(1, i)]))
    else if p.1.1 = 3 ∧ t p.1.2.1 = 33 then
      (if 8 ≤ no then (false, p) else match pz t n key F 5 ro (no + 1) (nxT t n p.1, p.2) with
        | (false, q) => (false, q)
        | (true, q) => (true, (q.1, q.2 ++ [(2, 9)])))
    else if p.1.1 = 3 ∧ t p.1.2.1 = 40 then
      (if 8 ≤ ro then (false, p) else match pz t n key F 0 (ro + 1) no (nxT t n p.1, p.2) with
        | (false, q) => (false, q)
        | (true, q) => if q.1.1 = 3 ∧ t q.1.2.1 = 41 then (true, (nxT t n q.1, q.2)) else (false, q))
    else (false, p)
