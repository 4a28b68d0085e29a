def nm3 (a b c : Int32) : Nat → Int32 := fun j => if j = 0 then a else if j = 1 then b else c
def cntO (ps : List (Nat × Nat)) : Nat := (ps.filter (fun p => p.1 != 2)).length
def FrK (I I' : Im) : Prop := ∀ g, g ≠ 28 → I' g = I g
def FrV (I I' : Im) : Prop := ∀ g, g ≠ 45 → g ≠ 46 → I' g = I g
theorem stk_w {I : Im} {g id n m : Nat} {f : Nat → Int32} {v : Int32} (h : ∀ j, j < n → I g id j = f j) : ∀ j, j < n ∨ j = m → up3 I g id m v g id j = fu f m v j := fun j hj => by
  rw [up3_at]
  unfold fu
  split
  · rfl
  · exact h j (by omega)
theorem nvm {v : Nat} (h : v ≤ 9999) : ¬ nI v ≤ -10 := by
  intro z
  have a := Int32.le_iff_toInt_le.mp z
  rw [nI_toInt (by omega), show (-10 : Int32).toInt = -10 from rfl] at a
  omega
theorem sgm {s : Nat} (h : s < 10) : (-10 : Int32) - nI s ≤ -10 := by
  match s, h with
  | 0, _ => exact (by decide)
  | 1, _ => exact (by decide)
  | 2, _ => exact (by decide)
  | 3, _ => exact (by decide)
  | 4, _ => exact (by decide)
  | 5, _ => exact (by decide)
  | 6, _ => exact (by decide)
  | 7, _ => exact (by decide)
  | 8, _ => exact (by decide)
  | 9, _ => exact (by decide)
theorem sgn {s : Nat} (h : s < 9) : ¬ (-10 : Int32) - nI s = -19 := by
  match s, h with
  | 0, _ => exact (by decide)
  | 1, _ => exact (by decide)
  | 2, _ => exact (by decide)
  | 3, _ => exact (by decide)
  | 4, _ => exact (by decide)
  | 5, _ => exact (by decide)
  | 6, _ => exact (by decide)
  | 7, _ => exact (by decide)
  | 8, _ => exact (by decide)
theorem sgs {s : Nat} (h : s < 9) : (-10 : Int32) - ((-10) - nI s) = nI s := by
  match s, h with
  | 0, _ => exact (by decide)
  | 1, _ => exact (by decide)
  | 2, _ => exact (by decide)
  | 3, _ => exact (by decide)
  | 4, _ => exact (by decide)
  | 5, _ => exact (by decide)
  | 6, _ => exact (by decide)
  | 7, _ => exact (by decide)
  | 8, _ => exact (by decide)
theorem um1 {u : Int32} {m : Nat} (h : u + 1 = nI (m + 1)) : u = nI m := by
  have : u + 1 + (-1) = nI m := by rw [h]; exact pk_m1 m
  rw [Int32.add_assoc, show (1 : Int32) + (-1) = 0 from rfl] at this
  simpa using this
theorem drop_s {α : Type} {l : List α} {k : Nat} {p : α} {ps : List α} (d : α) (h : l.drop k = p :: ps) : k < l.length ∧ l.getD k d = p ∧ l.drop (k + 1) = ps := by
  have hk : k < l.length := by
    by_cases e : k < l.length
    · exact e
    · rw [List.drop_eq_nil_of_le (by omega)] at h; cases h
  rw [List.drop_eq_getElem_cons hk] at h
  injection h with h1 h2
  refine ⟨hk, ?_, h2⟩
  rw [List.getD_eq_getElem?_getD, List.getElem?_eq_getElem hk]
  exact h1
set_option maxRecDepth 100000 in
set_option maxHeartbeats 4000000 in
theorem w_gives_num {I : Nat → Nat → Nat → Int32} {X : am_Z} {g : am_F} {gs : List am_F} {d : Nat} {Q : Option am_V → am_M → Prop} {id k L N : Nat} (hL : X.2.2.1 id = L) (hN : X.2.2.2.1 id = N) (hk : k < L) (h96 : L ≤ 96) (hN96 : N ≤ 96) {a b c : Int32} {f : Nat → Int32} {y : Option am_V} {v : Nat} (hv : v ≤ 9999) {n : Nat} {u : Int32} (hu : u + 1 = nI n) (hf : ∀ j, j < n → I 28 id j = f j) (hnN : n < N) (hst : I 27 id k = nI v) (k0 : am_WP ((mX6_gives, 6, [some (.inr (.inr (some (6, id)))), some (.inl (a)), some (.inl (b)), some (.inl (c)), some (.inl ((nI n))), some (.inl ((nI (k + 1)))), some (.inl ((nI v)))], []) :: g :: gs) (d + 2) (mk (up3 I 28 id (n) ((nI v))) X) Q) : am_WP ((mX6_gives, 6, [some (.inr (.inr (some (6, id)))), some (.inl (a)), some (.inl (b)), some (.inl (c)), some (.inl (u)), some (.inl (nI k)), y], []) :: g :: gs) (d + 2) (mk I X) Q := by
  refine am_go 400 ?_
  have tk0 : (Int32.ofNat (X.2.2.1 (id))) = nI L := congrArg Int32.ofNat hL
  refine am_f (mt (le_nat (a := L) (b := k) tk0 (rfl : (nI k : Int32) = nI k) (by omega) (by omega)).mp (by omega)) ?_
  refine am_f (ix_in (n := k) (N := X.2.2.1 (id)) (rfl : (nI k : Int32) = nI k) (by omega) (by omega)) ?_
  have tk1 : (nI k).toNatClampNeg = k := ix_cl (n := k) (rfl : (nI k : Int32) = nI k) (by omega)
  have tk2 : I 27 id (((nI k).toNatClampNeg)) = nI v := by first | exact hst | (((try rw [tk1])); first | done | exact hst)
  refine am_f (by show ¬ (I 27 id (((nI k).toNatClampNeg))) ≤ (-10); (try rw [tk2]); (try rw [tk1]); first | done | exact (nvm hv)) ?_
  have tk3 : (Int32.ofNat (X.2.2.2.1 (id))) = nI N := congrArg Int32.ofNat hN
  refine am_f (mt (le_nat (a := N) (b := n) tk3 hu (by omega) (by omega)).mp (by omega)) ?_
  refine am_f (mt (lt_nat (a := v) (b := 0) tk2 (rfl : (0 : Int32) = nI 0) (by omega) (by omega)).mp (by omega)) ?_
  refine am_f (ix_in (n := n) (N := X.2.2.2.1 (id)) hu (by omega) (by omega)) ?_
  have tk4 : ((u + 1)).toNatClampNeg = n := ix_cl (n := n) hu (by omega)
  have tk5 : (u + 1) = nI n := hu
  have tk6 : (nI k + 1) = nI (k + 1) := (nI_addE rfl (rfl : (1 : Int32) = nI 1))
  show am_WP ((mX6_gives, 6, [some (.inr (.inr (some (6, id)))), some (.inl (a)), some (.inl (b)), some (.inl (c)), some (.inl (((u + 1)))), some (.inl (((nI k + 1)))), some (.inl ((I 27 id (((nI k).toNatClampNeg)))))], []) :: g :: gs) (d + 2) (mk (up3 I 28 id ((((u + 1)).toNatClampNeg)) ((I 27 id (((nI k).toNatClampNeg))))) X) Q
  try rw [tk2]
  try rw [tk4]
  try rw [tk1]
  try rw [tk6]
  try rw [tk5]
  exact k0
set_option maxRecDepth 100000 in
set_option maxHeartbeats 4000000 in
theorem w_gives_nm0 {I : Nat → Nat → Nat → Int32} {X : am_Z} {g : am_F} {gs : List am_F} {d : Nat} {Q : Option am_V → am_M → Prop} {id k L N : Nat} (hL : X.2.2.1 id = L) (hN : X.2.2.2.1 id = N) (hk : k < L) (h96 : L ≤ 96) (hN96 : N ≤ 96) {a b c : Int32} {f : Nat → Int32} {y : Option am_V} {n : Nat} {u : Int32} (hu : u + 1 = nI n) (hf : ∀ j, j < n → I 28 id j = f j) (hnN : n < N) (hst : I 27 id k = -1) (k0 : am_WP ((mX6_gives, 6, [some (.inr (.inr (some (6, id)))), some (.inl (a)), some (.inl (b)), some (.inl (c)), some (.inl ((nI n))), some (.inl ((nI (k + 1)))), some (.inl (((-1))))], []) :: g :: gs) (d + 2) (mk (up3 I 28 id (n) (a)) X) Q) : am_WP ((mX6_gives, 6, [some (.inr (.inr (some (6, id)))), some (.inl (a)), some (.inl (b)), some (.inl (c)), some (.inl (u)), some (.inl (nI k)), y], []) :: g :: gs) (d + 2) (mk I X) Q := by
  refine am_go 400 ?_
  have tk0 : (Int32.ofNat (X.2.2.1 (id))) = nI L := congrArg Int32.ofNat hL
  refine am_f (mt (le_nat (a := L) (b := k) tk0 (rfl : (nI k : Int32) = nI k) (by omega) (by omega)).mp (by omega)) ?_
  refine am_f (ix_in (n := k) (N := X.2.2.1 (id)) (rfl : (nI k : Int32) = nI k) (by omega) (by omega)) ?_
  have tk1 : (nI k).toNatClampNeg = k := ix_cl (n := k) (rfl : (nI k : Int32) = nI k) (by omega)
  have tk2 : I 27 id (((nI k).toNatClampNeg)) = (-1) := by first | exact hst | (((try rw [tk1])); first | done | exact hst)
  refine am_f (by show ¬ (I 27 id (((nI k).toNatClampNeg))) ≤ (-10); (try rw [tk2]); (try rw [tk1]); first | done | exact (by decide)) ?_
  have tk3 : (Int32.ofNat (X.2.2.2.1 (id))) = nI N := congrArg Int32.ofNat hN
  refine am_f (mt (le_nat (a := N) (b := n) tk3 hu (by omega) (by omega)).mp (by omega)) ?_
  refine am_t (by show (I 27 id (((nI k).toNatClampNeg))) < 0; (try rw [tk2]); (try rw [tk1]); first | done | exact (by decide)) ?_
  refine am_t (by show (I 27 id (((nI k).toNatClampNeg))) = (-1); (try rw [tk2]); (try rw [tk1]); first | done | exact (by decide)) ?_
  refine am_f (ix_in (n := n) (N := X.2.2.2.1 (id)) hu (by omega) (by omega)) ?_
  have tk4 : ((u + 1)).toNatClampNeg = n := ix_cl (n := n) hu (by omega)
  have tk5 : (u + 1) = nI n := hu
  have tk6 : (nI k + 1) = nI (k + 1) := (nI_addE rfl (rfl : (1 : Int32) = nI 1))
  show am_WP ((mX6_gives, 6, [some (.inr (.inr (some (6, id)))), some (.inl (a)), some (.inl (b)), some (.inl (c)), some (.inl (((u + 1)))), some (.inl (((nI k + 1)))), some (.inl ((I 27 id (((nI k).toNatClampNeg)))))], []) :: g :: gs) (d + 2) (mk (up3 I 28 id ((((u + 1)).toNatClampNeg)) (a)) X) Q
  try rw [tk2]
  try rw [tk4]
  try rw [tk1]
  try rw [tk6]
  try rw [tk5]
  exact k0
set_option maxRecDepth 100000 in
set_option maxHeartbeats 4000000 in
theorem w_gives_nm1 {I : Nat → Nat → Nat → Int32} {X : am_Z} {g : am_F} {gs : List am_F} {d : Nat} {Q : Option am_V → am_M → Prop} {id k L N : Nat} (hL : X.2.2.1 id = L) (hN : X.2.2.2.1 id = N) (hk : k < L) (h96 : L ≤ 96) (hN96 : N ≤ 96) {a b c : Int32} {f : Nat → Int32} {y : Option am_V} {n : Nat} {u : Int32} (hu : u + 1 = nI n) (hf : ∀ j, j < n → I 28 id j = f j) (hnN : n < N) (hst : I 27 id k = -2) (k0 : am_WP ((mX6_gives, 6, [some (.inr (.inr (some (6, id)))), some (.inl (a)), some (.inl (b)), some (.inl (c)), some (.inl ((nI n))), some (.inl ((nI (k + 1)))), some (.inl (((-2))))], []) :: g :: gs) (d + 2) (mk (up3 I 28 id (n) (b)) X) Q) : am_WP ((mX6_gives, 6, [some (.inr (.inr (some (6, id)))), some (.inl (a)), some (.inl (b)), some (.inl (c)), some (.inl (u)), some (.inl (nI k)), y], []) :: g :: gs) (d + 2) (mk I X) Q := by
  refine am_go 400 ?_
  have tk0 : (Int32.ofNat (X.2.2.1 (id))) = nI L := congrArg Int32.ofNat hL
  refine am_f (mt (le_nat (a := L) (b := k) tk0 (rfl : (nI k : Int32) = nI k) (by omega) (by omega)).mp (by omega)) ?_
  refine am_f (ix_in (n := k) (N := X.2.2.1 (id)) (rfl : (nI k : Int32) = nI k) (by omega) (by omega)) ?_
  have tk1 : (nI k).toNatClampNeg = k := ix_cl (n := k) (rfl : (nI k : Int32) = nI k) (by omega)
  have tk2 : I 27 id (((nI k).toNatClampNeg)) = (-2) := by first | exact hst | (((try rw [tk1])); first | done | exact hst)
  refine am_f (by show ¬ (I 27 id (((nI k).toNatClampNeg))) ≤ (-10); (try rw [tk2]); (try rw [tk1]); first | done | exact (by decide)) ?_
  have tk3 : (Int32.ofNat (X.2.2.2.1 (id))) = nI N := congrArg Int32.ofNat hN
  refine am_f (mt (le_nat (a := N) (b := n) tk3 hu (by omega) (by omega)).mp (by omega)) ?_
  refine am_t (by show (I 27 id (((nI k).toNatClampNeg))) < 0; (try rw [tk2]); (try rw [tk1]); first | done | exact (by decide)) ?_
  refine am_f (by show ¬ (I 27 id (((nI k).toNatClampNeg))) = (-1); (try rw [tk2]); (try rw [tk1]); first | done | exact (by decide)) ?_
  refine am_t (by show (I 27 id (((nI k).toNatClampNeg))) = (-2); (try rw [tk2]); (try rw [tk1]); first | done | exact (by decide)) ?_
  refine am_f (ix_in (n := n) (N := X.2.2.2.1 (id)) hu (by omega) (by omega)) ?_
  have tk4 : ((u + 1)).toNatClampNeg = n := ix_cl (n := n) hu (by omega)
  have tk5 : (u + 1) = nI n := hu
  have tk6 : (nI k + 1) = nI (k + 1) := (nI_addE rfl (rfl : (1 : Int32) = nI 1))
  show am_WP ((mX6_gives, 6, [some (.inr (.inr (some (6, id)))), some (.inl (a)), some (.inl (b)), some (.inl (c)), some (.inl (((u + 1)))), some (.inl (((nI k + 1)))), some (.inl ((I 27 id (((nI k).toNatClampNeg)))))], []) :: g :: gs) (d + 2) (mk (up3 I 28 id ((((u + 1)).toNatClampNeg)) (b)) X) Q
  try rw [tk2]
  try rw [tk4]
  try rw [tk1]
  try rw [tk6]
  try rw [tk5]
  exact k0
set_option maxRecDepth 100000 in
set_option maxHeartbeats 4000000 in
theorem w_gives_nm2 {I : Nat → Nat → Nat → Int32} {X : am_Z} {g : am_F} {gs : List am_F} {d : Nat} {Q : Option am_V → am_M → Prop} {id k L N : Nat} (hL : X.2.2.1 id = L) (hN : X.2.2.2.1 id = N) (hk : k < L) (h96 : L ≤ 96) (hN96 : N ≤ 96) {a b c : Int32} {f : Nat → Int32} {y : Option am_V} {n : Nat} {u : Int32} (hu : u + 1 = nI n) (hf : ∀ j, j < n → I 28 id j = f j) (hnN : n < N) (hst : I 27 id k = -3) (k0 : am_WP ((mX6_gives, 6, [some (.inr (.inr (some (6, id)))), some (.inl (a)), some (.inl (b)), some (.inl (c)), some (.inl ((nI n))), some (.inl ((nI (k + 1)))), some (.inl (((-3))))], []) :: g :: gs) (d + 2) (mk (up3 I 28 id (n) (c)) X) Q) : am_WP ((mX6_gives, 6, [some (.inr (.inr (some (6, id)))), some (.inl (a)), some (.inl (b)), some (.inl (c)), some (.inl (u)), some (.inl (nI k)), y], []) :: g :: gs) (d + 2) (mk I X) Q := by
  refine am_go 400 ?_
  have tk0 : (Int32.ofNat (X.2.2.1 (id))) = nI L := congrArg Int32.ofNat hL
  refine am_f (mt (le_nat (a := L) (b := k) tk0 (rfl : (nI k : Int32) = nI k) (by omega) (by omega)).mp (by omega)) ?_
  refine am_f (ix_in (n := k) (N := X.2.2.1 (id)) (rfl : (nI k : Int32) = nI k) (by omega) (by omega)) ?_
  have tk1 : (nI k).toNatClampNeg = k := ix_cl (n := k) (rfl : (nI k : Int32) = nI k) (by omega)
  have tk2 : I 27 id (((nI k).toNatClampNeg)) = (-3) := by first | exact hst | (((try rw [tk1])); first | done | exact hst)
  refine am_f (by show ¬ (I 27 id (((nI k).toNatClampNeg))) ≤ (-10); (try rw [tk2]); (try rw [tk1]); first | done | exact (by decide)) ?_
  have tk3 : (Int32.ofNat (X.2.2.2.1 (id))) = nI N := congrArg Int32.ofNat hN
  refine am_f (mt (le_nat (a := N) (b := n) tk3 hu (by omega) (by omega)).mp (by omega)) ?_
  refine am_t (by show (I 27 id (((nI k).toNatClampNeg))) < 0; (try rw [tk2]); (try rw [tk1]); first | done | exact (by decide)) ?_
  refine am_f (by show ¬ (I 27 id (((nI k).toNatClampNeg))) = (-1); (try rw [tk2]); (try rw [tk1]); first | done | exact (by decide)) ?_
  refine am_f (by show ¬ (I 27 id (((nI k).toNatClampNeg))) = (-2); (try rw [tk2]); (try rw [tk1]); first | done | exact (by decide)) ?_
  refine am_f (ix_in (n := n) (N := X.2.2.2.1 (id)) hu (by omega) (by omega)) ?_
  have tk4 : ((u + 1)).toNatClampNeg = n := ix_cl (n := n) hu (by omega)
  have tk5 : (u + 1) = nI n := hu
  have tk6 : (nI k + 1) = nI (k + 1) := (nI_addE rfl (rfl : (1 : Int32) = nI 1))
  show am_WP ((mX6_gives, 6, [some (.inr (.inr (some (6, id)))), some (.inl (a)), some (.inl (b)), some (.inl (c)), some (.inl (((u + 1)))), some (.inl (((nI k + 1)))), some (.inl ((I 27 id (((nI k).toNatClampNeg)))))], []) :: g :: gs) (d + 2) (mk (up3 I 28 id ((((u + 1)).toNatClampNeg)) (c)) X) Q
  try rw [tk2]
  try rw [tk4]
  try rw [tk1]
  try rw [tk6]
  try rw [tk5]
  exact k0
set_option maxRecDepth 100000 in
set_option maxHeartbeats 4000000 in
theorem w_gives_not {I : Nat → Nat → Nat → Int32} {X : am_Z} {g : am_F} {gs : List am_F} {d : Nat} {Q : Option am_V → am_M → Prop} {id k L N : Nat} (hL : X.2.2.1 id = L) (hN : X.2.2.2.1 id = N) (hk : k < L) (h96 : L ≤ 96) (hN96 : N ≤ 96) {a b c : Int32} {f : Nat → Int32} {y : Option am_V} {m : Nat} (hm : m < N) (hf : ∀ j, j < m + 1 → I 28 id j = f j) (hst : I 27 id k = -19) (k0 : (((f (m))) = 0) → am_WP ((mX6_gives, 6, [some (.inr (.inr (some (6, id)))), some (.inl (a)), some (.inl (b)), some (.inl (c)), some (.inl (nI m)), some (.inl ((nI (k + 1)))), some (.inl (((-19))))], []) :: g :: gs) (d + 2) (mk (up3 I 28 id (m) (1)) X) Q) (k1 : (¬ ((f (m))) = 0) → am_WP ((mX6_gives, 6, [some (.inr (.inr (some (6, id)))), some (.inl (a)), some (.inl (b)), some (.inl (c)), some (.inl (nI m)), some (.inl ((nI (k + 1)))), some (.inl (((-19))))], []) :: g :: gs) (d + 2) (mk (up3 I 28 id (m) (0)) X) Q) : am_WP ((mX6_gives, 6, [some (.inr (.inr (some (6, id)))), some (.inl (a)), some (.inl (b)), some (.inl (c)), some (.inl (nI m)), some (.inl (nI k)), y], []) :: g :: gs) (d + 2) (mk I X) Q := by
  refine am_go 400 ?_
  have tk0 : (Int32.ofNat (X.2.2.1 (id))) = nI L := congrArg Int32.ofNat hL
  refine am_f (mt (le_nat (a := L) (b := k) tk0 (rfl : (nI k : Int32) = nI k) (by omega) (by omega)).mp (by omega)) ?_
  refine am_f (ix_in (n := k) (N := X.2.2.1 (id)) (rfl : (nI k : Int32) = nI k) (by omega) (by omega)) ?_
  have tk1 : (nI k).toNatClampNeg = k := ix_cl (n := k) (rfl : (nI k : Int32) = nI k) (by omega)
  have tk2 : I 27 id (((nI k).toNatClampNeg)) = (-19) := by first | exact hst | (((try rw [tk1])); first | done | exact hst)
  refine am_t (by show (I 27 id (((nI k).toNatClampNeg))) ≤ (-10); (try rw [tk2]); (try rw [tk1]); first | done | exact (by decide)) ?_
  refine am_t (by show (I 27 id (((nI k).toNatClampNeg))) = (-19); (try rw [tk2]); (try rw [tk1]); first | done | exact rfl) ?_
  refine am_f (mt (lt_nat (a := m) (b := 0) (rfl : (nI m : Int32) = nI m) (rfl : (0 : Int32) = nI 0) (by omega) (by omega)).mp (by omega)) ?_
  refine am_f (ix_in (n := m) (N := X.2.2.2.1 (id)) (rfl : (nI m : Int32) = nI m) (by omega) (by omega)) ?_
  have tk3 : (nI m).toNatClampNeg = m := ix_cl (n := m) (rfl : (nI m : Int32) = nI m) (by omega)
  have tk4 : I 28 id (((nI m).toNatClampNeg)) = (f (m)) := by first | exact hf _ (by omega) | (((try rw [tk3])); first | done | exact hf _ (by omega))
  refine am_if (fun h1 => ?_) (fun h1 => ?_)
  · have h1 : (I 28 id (((nI m).toNatClampNeg))) = 0 := h1
    try rw [tk4] at h1
    try rw [tk3] at h1
    refine am_go 400 ?_
    refine am_go 400 ?_
    refine am_f (ix_in (n := m) (N := X.2.2.2.1 (id)) (rfl : (nI m : Int32) = nI m) (by omega) (by omega)) ?_
    have tk5 : (nI k + 1) = nI (k + 1) := (nI_addE rfl (rfl : (1 : Int32) = nI 1))
    show am_WP ((mX6_gives, 6, [some (.inr (.inr (some (6, id)))), some (.inl (a)), some (.inl (b)), some (.inl (c)), some (.inl (nI m)), some (.inl (((nI k + 1)))), some (.inl ((I 27 id (((nI k).toNatClampNeg)))))], []) :: g :: gs) (d + 2) (mk (up3 I 28 id (((nI m).toNatClampNeg)) (1)) X) Q
    try rw [tk2]
    try rw [tk3]
    try rw [tk1]
    try rw [tk5]
    exact k0 h1
  · have h1 : ¬ (I 28 id (((nI m).toNatClampNeg))) = 0 := h1
    try rw [tk4] at h1
    try rw [tk3] at h1
    refine am_go 400 ?_
    refine am_go 400 ?_
    refine am_f (ix_in (n := m) (N := X.2.2.2.1 (id)) (rfl : (nI m : Int32) = nI m) (by omega) (by omega)) ?_
    have tk6 : (nI k + 1) = nI (k + 1) := (nI_addE rfl (rfl : (1 : Int32) = nI 1))
    show am_WP ((mX6_gives, 6, [some (.inr (.inr (some (6, id)))), some (.inl (a)), some (.inl (b)), some (.inl (c)), some (.inl (nI m)), some (.inl (((nI k + 1)))), some (.inl ((I 27 id (((nI k).toNatClampNeg)))))], []) :: g :: gs) (d + 2) (mk (up3 I 28 id (((nI m).toNatClampNeg)) (0)) X) Q
    try rw [tk2]
    try rw [tk3]
    try rw [tk1]
    try rw [tk6]
    exact k1 h1
set_option maxRecDepth 100000 in
set_option maxHeartbeats 4000000 in
theorem w_gives_join {I : Nat → Nat → Nat → Int32} {X : am_Z} {g : am_F} {gs : List am_F} {d : Nat} {Q : Option am_V → am_M → Prop} {id k L N : Nat} (hL : X.2.2.1 id = L) (hN : X.2.2.2.1 id = N) (hk : k < L) (h96 : L ≤ 96) (hN96 : N ≤ 96) {a b c : Int32} {f : Nat → Int32} {y : Option am_V} {m s : Nat} (hs : s < 9) (hm : m + 1 < N) (hf : ∀ j, j < m + 2 → I 28 id j = f j) (hst : I 27 id k = -10 - nI s) (k0 : am_WP ((mX6_gives, 6, [some (.inr (.inr (some (6, id)))), some (.inl (a)), some (.inl (b)), some (.inl (c)), some (.inl (nI m)), some (.inl ((nI (k + 1)))), some (.inl ((((-10) - nI s))))], []) :: g :: gs) (d + 2) (mk (up3 I 28 id (m) ((jn s (((f (m)))) (((f (m + 1))))))) X) Q) : am_WP ((mX6_gives, 6, [some (.inr (.inr (some (6, id)))), some (.inl (a)), some (.inl (b)), some (.inl (c)), some (.inl (nI (m + 1))), some (.inl (nI k)), y], []) :: g :: gs) (d + 2) (mk I X) Q := by
  refine am_go 19 ?_
  have tk0 : (Int32.ofNat (X.2.2.1 (id))) = nI L := congrArg Int32.ofNat hL
  refine am_f (mt (le_nat (a := L) (b := k) tk0 (rfl : (nI k : Int32) = nI k) (by omega) (by omega)).mp (by omega)) ?_
  refine am_f (ix_in (n := k) (N := X.2.2.1 (id)) (rfl : (nI k : Int32) = nI k) (by omega) (by omega)) ?_
  have tk1 : (nI k).toNatClampNeg = k := ix_cl (n := k) (rfl : (nI k : Int32) = nI k) (by omega)
  have tk2 : I 27 id (((nI k).toNatClampNeg)) = ((-10) - nI s) := by first | exact hst | (((try rw [tk1])); first | done | exact hst)
  refine am_t (by show (I 27 id (((nI k).toNatClampNeg))) ≤ (-10); (try rw [tk2]); (try rw [tk1]); first | done | exact (sgm (by omega))) ?_
  refine am_f (by show ¬ (I 27 id (((nI k).toNatClampNeg))) = (-19); (try rw [tk2]); (try rw [tk1]); first | done | exact (sgn hs)) ?_
  refine am_f (mt (lt_nat (a := (m + 1)) (b := 1) (rfl : (nI (m + 1) : Int32) = nI (m + 1)) (rfl : (1 : Int32) = nI 1) (by omega) (by omega)).mp (by omega)) ?_
  refine am_go 1 ?_
  show am_WP ((mX6_gives, 138, [some (.inr (.inr (some (6, id)))), some (.inl (a)), some (.inl (b)), some (.inl (c)), some (.inl ((nI (m + 1) + (-1)))), some (.inl (nI k)), some (.inl ((I 27 id (((nI k).toNatClampNeg)))))], []) :: g :: gs) (d + 2) (mk I X) Q
  rw [show (nI (m + 1) + (-1)) = nI m from (pk_m1 m)]
  refine am_go 400 ?_
  refine am_f (ix_in (n := m) (N := X.2.2.2.1 (id)) (rfl : (nI m : Int32) = nI m) (by omega) (by omega)) ?_
  have tk3 : (nI m).toNatClampNeg = m := ix_cl (n := m) (rfl : (nI m : Int32) = nI m) (by omega)
  have tk4 : I 28 id (((nI m).toNatClampNeg)) = (f (m)) := by first | exact hf _ (by omega) | (((try rw [tk3])); first | done | exact hf _ (by omega))
  refine am_f (ix_in (n := (m + 1)) (N := X.2.2.2.1 (id)) (nI_addE rfl (rfl : (1 : Int32) = nI 1)) (by omega) (by omega)) ?_
  have tk5 : ((nI m + 1)).toNatClampNeg = (m + 1) := ix_cl (n := (m + 1)) (nI_addE rfl (rfl : (1 : Int32) = nI 1)) (by omega)
  have tk6 : I 28 id ((((nI m + 1)).toNatClampNeg)) = (f (m + 1)) := by first | exact hf _ (by omega) | (((try rw [tk5])); first | done | exact hf _ (by omega))
  refine (c_X6_joined (s := s) (show ((-10) - (I 27 id (((nI k).toNatClampNeg)))) = nI s by (try rw [tk2]); (try rw [tk1]); exact sgs hs) (by omega)) _ _ _ ?_
  refine am_go 400 ?_
  refine am_f (ix_in (n := m) (N := X.2.2.2.1 (id)) (rfl : (nI m : Int32) = nI m) (by omega) (by omega)) ?_
  have tk7 : (nI k + 1) = nI (k + 1) := (nI_addE rfl (rfl : (1 : Int32) = nI 1))
  show am_WP ((mX6_gives, 6, [some (.inr (.inr (some (6, id)))), some (.inl (a)), some (.inl (b)), some (.inl (c)), some (.inl (nI m)), some (.inl (((nI k + 1)))), some (.inl ((I 27 id (((nI k).toNatClampNeg)))))], []) :: g :: gs) (d + 2) (mk (up3 I 28 id (((nI m).toNatClampNeg)) ((jn s ((I 28 id (((nI m).toNatClampNeg)))) ((I 28 id ((((nI m + 1)).toNatClampNeg))))))) X) Q
  try rw [tk6]
  try rw [tk4]
  try rw [tk2]
  try rw [tk5]
  try rw [tk3]
  try rw [tk1]
  try rw [tk7]
  exact k0
set_option maxRecDepth 100000 in
set_option maxHeartbeats 4000000 in
theorem w_gives_end {I : Nat → Nat → Nat → Int32} {X : am_Z} {g : am_F} {gs : List am_F} {d : Nat} {Q : Option am_V → am_M → Prop} {id k L N : Nat} (hL : X.2.2.1 id = L) (hN : X.2.2.2.1 id = N) (h96 : L ≤ 96) (hN96 : N ≤ 96) {a b c : Int32} {f : Nat → Int32} {y : Option am_V} (hk : L ≤ k) (hk2 : k ≤ 96) (hN0 : 0 < N) (hf : I 28 id 0 = f 0) (k0 : am_WP (am_psh g (some (.inl (((f 0))))) :: gs) (d + 3) (mk I X) Q) : am_WP ((mX6_gives, 6, [some (.inr (.inr (some (6, id)))), some (.inl (a)), some (.inl (b)), some (.inl (c)), some (.inl (0)), some (.inl (nI k)), y], []) :: g :: gs) (d + 2) (mk I X) Q := by
  refine am_go 400 ?_
  have tk0 : (Int32.ofNat (X.2.2.1 (id))) = nI L := congrArg Int32.ofNat hL
  refine am_t ((le_nat (a := L) (b := k) tk0 (rfl : (nI k : Int32) = nI k) (by omega) (by omega)).mpr hk) ?_
  refine am_f (ix_in (n := 0) (N := X.2.2.2.1 (id)) (rfl : (0 : Int32) = nI 0) (by omega) (by omega)) ?_
  have tk1 : I 28 id 0 = (f 0) := hf
  show am_WP (am_psh g (some (.inl ((I 28 id 0)))) :: gs) (d + 3) (mk I X) Q
  try rw [tk1]
  exact k0
set_option maxRecDepth 100000 in
set_option maxHeartbeats 4000000 in
theorem w_X6_gives {I : Nat → Nat → Nat → Int32} {X : am_Z} {g : am_F} {gs : List am_F} {d : Nat} {Q : Option am_V → am_M → Prop} {id : Nat} {a b c : Int32} (k0 : am_WP ((mX6_gives, 6, [some (.inr (.inr (some (6, id)))), some (.inl (a)), some (.inl (b)), some (.inl (c)), some (.inl ((-1))), some (.inl (0)), none], []) :: g :: gs) (d + 2) (mk I X) Q) : am_WP (am_entry mX6_gives [.inr (.inr (some (6, id))), .inl (a), .inl (b), .inl (c)] :: g :: gs) (d + 2) (mk I X) Q := by
  refine am_go 4 ?_
  exact k0
theorem cntO_c (p : Nat × Nat) (ps : List (Nat × Nat)) : cntO (p :: ps) = (if p.1 = 2 then 0 else 1) + cntO ps := by
  unfold cntO
  rw [List.filter_cons]
  by_cases e : p.1 = 2
  · simp [e]
  · simp [e]; omega
theorem wfS_9 {n : Nat} {p : Nat × Nat} {ps : List (Nat × Nat)} (h : wfS n (p :: ps)) : (p.1 < 2 ∧ wfS (n + 1) ps) ∨ (p.1 = 2 ∧ p.2 = 9 ∧ 1 ≤ n ∧ wfS n ps) ∨ (p.1 = 2 ∧ p.2 < 9 ∧ 2 ≤ n ∧ wfS (n - 1) ps) := by
  rw [wfS] at h
  split at h
  · rename_i e
    split at h
    · rename_i e2; exact Or.inr (Or.inl ⟨e, e2, h.1, h.2⟩)
    · exact Or.inr (Or.inr ⟨e, h.1, h.2.1, h.2.2⟩)
  · exact Or.inl ⟨h.1, h.2⟩
theorem l_X6_gives {I0 : Im} {X g gs d Q} {id : Nat} {t : Tx} {a b c : Int32} (hL : X.2.2.1 id = t.2.2.length) (hN : X.2.2.2.1 id = t.2.1) (hG : GT t) (hst : ∀ k, k < t.2.2.length → I0 27 id k = enC (t.2.2.getD k (0, 0))) : ∀ (ps : List (Nat × Nat)) (k n : Nat) (f : Nat → Int32) (u : Int32) (I : Im) (y : Option am_V), t.2.2.drop k = ps → k ≤ t.2.2.length → wfS n ps → n + cntO ps ≤ t.2.1 → u + 1 = nI n → (∀ j, j < n → I 28 id j = f j) → FrK I0 I →
    (∀ I', FrK I0 I' → am_WP (am_psh g (some (.inl (evF (nm3 a b c) ps n f))) :: gs) (d + 3) (mk I' X) Q) →
    am_WP ((mX6_gives, 6, [some (.inr (.inr (some (6, id)))), some (.inl a), some (.inl b), some (.inl c), some (.inl u), some (.inl (nI k)), y], []) :: g :: gs) (d + 2) (mk I X) Q
  | [], k, n, f, u, I, y, hd, hkl, hw, hc, hu, hf, F, K => by
    have h96 := hG.2.1
    have hN96 : t.2.1 ≤ 96 := by rw [hG.2.2.2.1]; exact Nat.le_trans (List.length_filter_le _ _) h96
    have n1 : n = 1 := hw
    subst n1
    have u0 : u = 0 := um1 hu
    subst u0
    have hk : t.2.2.length ≤ k := by
      by_cases e : t.2.2.length ≤ k
      · exact e
      · rw [List.drop_eq_getElem_cons (by omega)] at hd; cases hd
    exact w_gives_end hL hN h96 hN96 hk (by omega) (by omega) (hf 0 (by omega)) (K I F)
  | p :: ps, k, n, f, u, I, y, hd, hkl, hw, hc, hu, hf, F, K => by
    have h96 := hG.2.1
    have hN96 : t.2.1 ≤ 96 := by rw [hG.2.2.2.1]; exact Nat.le_trans (List.length_filter_le _ _) h96
    obtain ⟨hk, hp, hd'⟩ := drop_s (0, 0) hd
    have hm : p ∈ t.2.2 := by rw [← hp, List.getD_eq_getElem?_getD, List.getElem?_eq_getElem hk]; exact List.getElem_mem hk
    have hv := hG.2.2.2.2 p hm
    have hs : I 27 id k = enC p := by rw [F 27 (by decide), hst k hk, hp]
    rw [cntO_c] at hc
    rcases wfS_9 hw with ⟨h2, hw'⟩ | ⟨h2, h9, h1, hw'⟩ | ⟨h2, h9, h1, hw'⟩
    · rw [if_neg (by omega)] at hc
      by_cases h0 : p.1 = 0
      · have hs' : I 27 id k = nI p.2 := by rw [hs]; unfold enC; rw [if_pos h0]
        refine w_gives_num hL hN hk h96 hN96 (hv.1 h0) hu hf (by omega) hs' ?_
        refine l_X6_gives hL hN hG hst ps (k + 1) (n + 1) (fu f n (nI p.2)) _ _ _ hd' (by omega) hw' (by omega) (nI_s n) (fun j hj => stk_w hf j (by omega)) (fun g hg => by rw [up3_g hg]; exact F g hg) ?_
        intro I' F'
        have := K I' F'
        rw [evF, if_pos h0] at this
        exact this
      · have h1 : p.1 = 1 := by omega
        have hs' : I 27 id k = -1 - nI p.2 := by rw [hs]; unfold enC; rw [if_neg h0, if_pos h1]
        have hlt : p.2 < 3 := by have := hv.2 h1; split at this <;> omega
        have rc1 : ∀ w : Int32, w = nm3 a b c p.2 → ∀ y', am_WP ((mX6_gives, 6, [some (.inr (.inr (some (6, id)))), some (.inl a), some (.inl b), some (.inl c), some (.inl (nI n)), some (.inl (nI (k + 1))), y'], []) :: g :: gs) (d + 2) (mk (up3 I 28 id n w) X) Q := fun w hw2 y' => by
          refine l_X6_gives hL hN hG hst ps (k + 1) (n + 1) (fu f n w) _ _ _ hd' (by omega) hw' (by omega) (nI_s n) (fun j hj => stk_w hf j (by omega)) (fun g hg => by rw [up3_g hg]; exact F g hg) ?_
          intro I' F'
          have := K I' F'
          rw [evF, if_neg h0, if_pos h1, ← hw2] at this
          exact this
        have q : p.2 = 0 ∨ p.2 = 1 ∨ p.2 = 2 := by omega
        rcases q with q | q | q
        · rw [q] at hs' rc1
          exact w_gives_nm0 hL hN hk h96 hN96 hu hf (by omega) hs' (rc1 a rfl _)
        · rw [q] at hs' rc1
          exact w_gives_nm1 hL hN hk h96 hN96 hu hf (by omega) hs' (rc1 b rfl _)
        · rw [q] at hs' rc1
          exact w_gives_nm2 hL hN hk h96 hN96 hu hf (by omega) hs' (rc1 c rfl _)
    · rw [if_pos h2] at hc
      obtain ⟨m, rfl⟩ : ∃ m, n = m + 1 := ⟨n - 1, by omega⟩
      have hu' := um1 hu
      subst hu'
      have hs' : I 27 id k = -19 := by rw [hs]; unfold enC; rw [if_neg (by omega), if_neg (by omega), h9]; rfl
      have ev : evF (nm3 a b c) (p :: ps) (m + 1) f = evF (nm3 a b c) ps (m + 1) (fu f m (bI (f m = 0))) := by rw [evF, if_neg (by omega), if_neg (by omega), if_pos h9]; rfl
      rw [ev] at K
      refine w_gives_not hL hN hk h96 hN96 (by omega) hf hs' ?_ ?_
      · intro h3
        rw [bI_t h3] at K
        exact l_X6_gives hL hN hG hst ps (k + 1) (m + 1) (fu f m 1) _ _ _ hd' (by omega) hw' (by omega) (nI_s m) (fun j hj => stk_w hf j (by omega)) (fun g hg => by rw [up3_g hg]; exact F g hg) K
      · intro h3
        rw [bI_f h3] at K
        exact l_X6_gives hL hN hG hst ps (k + 1) (m + 1) (fu f m 0) _ _ _ hd' (by omega) hw' (by omega) (nI_s m) (fun j hj => stk_w hf j (by omega)) (fun g hg => by rw [up3_g hg]; exact F g hg) K
    · rw [if_pos h2] at hc
      obtain ⟨m, rfl⟩ : ∃ m, n = m + 2 := ⟨n - 2, by omega⟩
      have hu' := um1 (m := m + 1) hu
      subst hu'
      have hs' : I 27 id k = -10 - nI p.2 := by rw [hs]; unfold enC; rw [if_neg (by omega), if_neg (by omega)]
      have ev : evF (nm3 a b c) (p :: ps) (m + 2) f = evF (nm3 a b c) ps (m + 1) (fu f m (jn p.2 (f m) (f (m + 1)))) := by rw [evF, if_neg (by omega), if_neg (by omega), if_neg (by omega)]; rfl
      rw [ev] at K
      refine w_gives_join hL hN hk h96 hN96 h9 (by omega) hf hs' ?_
      exact l_X6_gives hL hN hG hst ps (k + 1) (m + 1) (fu f m (jn p.2 (f m) (f (m + 1)))) _ _ _ hd' (by omega) hw' (by omega) (nI_s m) (fun j hj => stk_w hf j (by omega)) (fun g hg => by rw [up3_g hg]; exact F g hg) K
theorem c_X6_gives {I X d} {id : Nat} {t : Tx} {a b c : Int32} (h : TxC I X id t) (hG : GT t) : Sw mX6_gives [.inr (.inr (some (6, id))), .inl a, .inl b, .inl c] (d + 2) I X (some (.inl (tv t (nm3 a b c)))) (fun I' => FrK I I') := fun g gs Q K =>
  w_X6_gives (l_X6_gives h.2.2.2.1 h.2.2.2.2.1 hG h.2.2.2.2.2 t.2.2 0 0 (fun _ => 0) (-1) I none rfl (Nat.zero_le _) hG.2.2.1 (by rw [hG.2.2.2.1, Nat.zero_add]; exact Nat.le_refl _) rfl (fun j hj => absurd hj (by omega)) (fun _ _ => rfl) K)
