/-! FROM THE ABSTRACT MACHINE TO THE MACHINE: words, classes -/
def am_gw : List Cond := lw_tbl.filter goodWord
theorem am_gw_in {w : Nat} {c : Cond} (h : am_wd w c = true) (hg : goodWord c = true) : c ∈ am_gw := by
  unfold am_wd at h
  exact List.mem_filter.mpr ⟨List.mem_of_getElem? (of_decide_eq_true h), hg⟩
theorem am_gw_at {w : Nat} {c : Cond} (h : lw_tbl[w]? = some c) (hg : goodWord c = true) : c ∈ am_gw := List.mem_filter.mpr ⟨List.mem_of_getElem? h, hg⟩
theorem am_gw_good {big : List Cond} (h : ∀ w ∈ am_gw, w ∈ big) : GoodIn big am_gw := fun w hw => ⟨h w hw, good_of_word (List.mem_filter.mp hw).2⟩
def am_wL : List (List Nat) := [[117, 119, 121, 123, 125, 127, 129, 131], [156, 158, 160, 162, 164, 166, 168, 170, 172], [191, 193, 195, 197, 199, 201, 203], [226, 228, 230, 232, 234, 236, 238, 240, 242, 244, 246, 248], [264, 266, 268], [286, 288, 290, 292, 294], [807, 809, 811, 813], [307, 309, 311, 313, 315, 317, 319, 321, 323, 325], [949, 951, 953, 955, 957, 959, 961, 963, 965, 967, 969, 971, 973, 975, 977, 979, 981, 983, 985, 987, 989, 991, 993, 995, 997, 999, 1001, 1003, 1005, 1007, 1009, 1011, 1013, 1015, 1017]]
set_option maxRecDepth 100000 in
theorem am_wL_ok : (List.range 9).all (fun c => (List.range (am_N c)).all (fun j => am_wd ((am_wL.getD c []).getD j 0) (u_lay (am_R c) (am_T c) j) && goodWord (u_lay (am_R c) (am_T c) j))) = true := by decide +kernel
theorem am_uws {c : Nat} (hc : c ≤ 8) : ∀ w ∈ u_ws (am_R c) (am_T c) (am_N c), w ∈ am_gw := by
  intro w hw
  obtain ⟨j, hj, rfl⟩ := List.mem_map.mp hw
  have h1 := List.all_eq_true.mp am_wL_ok c (List.mem_range.mpr (by omega))
  have h2 := List.all_eq_true.mp h1 j hj
  simp only [Bool.and_eq_true] at h2
  exact am_gw_in h2.1 h2.2
theorem am_cl_at : ∀ c, c ≤ 8 → am_cl[c]? = some (am_R c, am_T c, am_N c)
  | 0, _ => rfl | 1, _ => rfl | 2, _ => rfl | 3, _ => rfl | 4, _ => rfl | 5, _ => rfl | 6, _ => rfl | 7, _ => rfl | 8, _ => rfl
  | _ + 9, h => absurd h (by omega)
set_option maxRecDepth 100000 in
theorem am_ty_dec : (List.range 9).all (fun c => (List.range (am_N c)).all (fun k => decide (parseFieldDescriptor (am_T c k).2.2.1 = some (am_ty c k)))) = true := by decide +kernel
theorem am_ty_ok {c : Nat} (hc : c ≤ 8) : ∀ k, k < am_N c → parseFieldDescriptor (am_T c k).2.2.1 = some (am_ty c k) := by
  intro k hk
  have h1 := List.all_eq_true.mp am_ty_dec c (List.mem_range.mpr (by omega))
  exact of_decide_eq_true (List.all_eq_true.mp h1 k (List.mem_range.mpr hk))
set_option maxRecDepth 100000 in
theorem am_nm_dec : (List.range 9).all (fun c => (List.range (am_N c)).all (fun a => (List.range (am_N c)).all (fun b => decide (a = b) || decide ((am_T c a).2.1 ≠ (am_T c b).2.1)))) = true := by decide +kernel
theorem am_nm_ok {c : Nat} (hc : c ≤ 8) : ∀ a, a < am_N c → ∀ b, b < am_N c → a ≠ b → (am_T c a).2.1 ≠ (am_T c b).2.1 := by
  intro a ha b hb hab
  have h1 := List.all_eq_true.mp am_nm_dec c (List.mem_range.mpr (by omega))
  have h2 := List.all_eq_true.mp (List.all_eq_true.mp h1 a (List.mem_range.mpr ha)) b (List.mem_range.mpr hb)
  simp only [Bool.or_eq_true, decide_eq_true_eq] at h2
  exact h2.resolve_left hab
def am_ftB (k : Nat) (t : FieldType) : Bool := match k, t with
  | 0, .int => true
  | 2, .boolean => true
  | 1, .object _ => true
  | 1, .array _ => true
  | _, _ => false
set_option maxRecDepth 100000 in
theorem am_ft_dec : (List.range 9).all (fun c => (List.range (am_N c)).all (fun k => am_ftB (am_fk c k) (am_ty c k))) = true := by decide +kernel
theorem am_ft_ok {c k : Nat} (hc : c ≤ 8) (hk : k < am_N c) : am_ftB (am_fk c k) (am_ty c k) = true := by
  have h1 := List.all_eq_true.mp am_ft_dec c (List.mem_range.mpr (by omega))
  exact List.all_eq_true.mp h1 k (List.mem_range.mpr hk)
theorem am_ft0 {t : FieldType} (h : am_ftB 0 t = true) : t = .int := by cases t <;> first | rfl | cases h
theorem am_ft2 {t : FieldType} (h : am_ftB 2 t = true) : t = .boolean := by cases t <;> first | rfl | cases h
theorem am_ft1 {t : FieldType} (h : am_ftB 1 t = true) : (∃ n, t = .object n) ∨ ∃ u, t = .array u := by cases t <;> first | exact Or.inl ⟨_, rfl⟩ | exact Or.inr ⟨_, rfl⟩ | cases h
/-! values -/
def am_rv (sa : Nat → Nat → Nat) (fm : Option Nat) (ad : Nat → Nat → Nat) : Option (Nat × Nat) → Value
  | none => .null
  | some q => if q.1 ≤ 95 then .ref (ad q.1 q.2) else if q.1 = 101 then va_rf fm else .ref (sa q.1 q.2)
def am_cv (sa : Nat → Nat → Nat) (fm : Option Nat) (ad : Nat → Nat → Nat) : am_V → Value
  | .inl x => .int x
  | .inr (.inl x) => .long x
  | .inr (.inr r) => am_rv sa fm ad r
theorem am_rv_c (sa : Nat → Nat → Nat) (fm : Option Nat) (ad : Nat → Nat → Nat) (r : Option (Nat × Nat)) : am_rv sa fm ad r = .null ∨ ∃ a, am_rv sa fm ad r = .ref a := by
  cases r with
  | none => exact Or.inl rfl
  | some q =>
    show (if q.1 ≤ 95 then Value.ref (ad q.1 q.2) else if q.1 = 101 then va_rf fm else .ref (sa q.1 q.2)) = .null ∨ ∃ a, (if q.1 ≤ 95 then Value.ref (ad q.1 q.2) else if q.1 = 101 then va_rf fm else .ref (sa q.1 q.2)) = .ref a
    split
    · exact Or.inr ⟨_, rfl⟩
    · split
      · cases fm with
        | none => exact Or.inl rfl
        | some a => exact Or.inr ⟨a, rfl⟩
      · exact Or.inr ⟨_, rfl⟩
theorem am_cv_cat (sa : Nat → Nat → Nat) (fm : Option Nat) (ad : Nat → Nat → Nat) (v : am_V) : (am_cv sa fm ad v).category = am_cat v := by
  rcases v with x | x | r
  · rfl
  · rfl
  · rcases am_rv_c sa fm ad r with h | ⟨a, h⟩
    · show (am_rv sa fm ad r).category = 1; rw [h]; rfl
    · show (am_rv sa fm ad r).category = 1; rw [h]; rfl
theorem am_dep_c (sa : Nat → Nat → Nat) (fm : Option Nat) (ad : Nat → Nat → Nat) (l : List am_V) : ((l.map (am_cv sa fm ad)).map fun v => v.category).sum = am_dep l := by
  induction l with
  | nil => rfl
  | cons v l ih => simp only [List.map_cons, List.sum_cons, ih, am_dep, am_cv_cat]
/-- a cell of our own, the script, a static array, a String constant, the formatter -/
def am_okr (L : List (Nat × Nat)) : Option (Nat × Nat) → Prop
  | none => True
  | some q => if q.1 ≤ 95 then q ∈ L else (q.1 = 96 ∧ q.2 = 0) ∨ (q.1 = 97 ∧ q.2 = 0) ∨ (q.1 = 98 ∧ q.2 = 0) ∨ (q.1 = 99 ∧ q.2 < 7) ∨ (q.1 = 100 ∧ q.2 < 7) ∨ q.1 = 101
def am_okv (L : List (Nat × Nat)) : am_V → Prop
  | .inr (.inr r) => am_okr L r
  | _ => True
theorem am_okr_in {L : List (Nat × Nat)} {g k : Nat} (h : am_okr L (some (g, k))) (hg : g ≤ 95) : (g, k) ∈ L := by
  simp only [am_okr, hg, if_true] at h
  exact h
theorem am_okr_of {L : List (Nat × Nat)} {q : Nat × Nat} (h : q ∈ L) (hq : q.1 ≤ 95) : am_okr L (some q) := by
  simp only [am_okr, hq, if_true]
  exact h
theorem am_okr_mono {L L1 : List (Nat × Nat)} (h : ∀ q ∈ L, q ∈ L1) {r : Option (Nat × Nat)} (hr : am_okr L r) : am_okr L1 r := by
  cases r with
  | none => trivial
  | some q =>
    by_cases hq : q.1 ≤ 95
    · exact am_okr_of (h q (by simpa [am_okr, hq] using hr)) hq
    · simpa [am_okr, hq] using hr
theorem am_okv_mono {L L1 : List (Nat × Nat)} (h : ∀ q ∈ L, q ∈ L1) {v : am_V} (hr : am_okv L v) : am_okv L1 v := by
  rcases v with x | x | r
  · trivial
  · trivial
  · exact am_okr_mono h hr
/-- the addresses grow, none moves -/
def am_xt (L L1 : List (Nat × Nat)) (ad ad1 : Nat → Nat → Nat) : Prop := ∀ q ∈ L, q ∈ L1 ∧ ad1 q.1 q.2 = ad q.1 q.2
theorem am_xt_rf {L : List (Nat × Nat)} {ad : Nat → Nat → Nat} : am_xt L L ad ad := fun _ h => ⟨h, rfl⟩
theorem am_xt_tr {L L1 L2 : List (Nat × Nat)} {ad ad1 ad2 : Nat → Nat → Nat} (h : am_xt L L1 ad ad1) (h2 : am_xt L1 L2 ad1 ad2) : am_xt L L2 ad ad2 := fun q hq => ⟨(h2 q (h q hq).1).1, (h2 q (h q hq).1).2.trans (h q hq).2⟩
theorem am_rv_xt {sa : Nat → Nat → Nat} {fm : Option Nat} {L L1 : List (Nat × Nat)} {ad ad1 : Nat → Nat → Nat} (h : am_xt L L1 ad ad1) {r : Option (Nat × Nat)} (hr : am_okr L r) : am_rv sa fm ad1 r = am_rv sa fm ad r := by
  cases r with
  | none => rfl
  | some q =>
    by_cases hq : q.1 ≤ 95
    · have h2 : q ∈ L := by simpa [am_okr, hq] using hr
      simp only [am_rv, hq, if_true, (h q h2).2]
    · simp only [am_rv, hq, if_false]
theorem am_cv_xt {sa : Nat → Nat → Nat} {fm : Option Nat} {L L1 : List (Nat × Nat)} {ad ad1 : Nat → Nat → Nat} (h : am_xt L L1 ad ad1) {v : am_V} (hr : am_okv L v) : am_cv sa fm ad1 v = am_cv sa fm ad v := by
  rcases v with x | x | r
  · rfl
  · rfl
  · exact am_rv_xt h hr
theorem am_map_xt {sa : Nat → Nat → Nat} {fm : Option Nat} {L L1 : List (Nat × Nat)} {ad ad1 : Nat → Nat → Nat} (h : am_xt L L1 ad ad1) {l : List am_V} (hr : ∀ v ∈ l, am_okv L v) : l.map (am_cv sa fm ad1) = l.map (am_cv sa fm ad) :=
  List.map_congr_left fun v hv => am_cv_xt h (hr v hv)
/-! locals -/
def am_prs (f : am_V → Value) : Nat → List (Option am_V) → List (Nat × Value)
  | _, [] => []
  | i, none :: l => am_prs f (i + 1) l
  | i, some v :: l => (i, f v) :: am_prs f (i + 1) l
theorem am_prs_get {f : am_V → Value} : ∀ {ls : List (Option am_V)} {i a : Nat} {v : am_V}, am_get ls a = some v → (i + a, f v) ∈ am_prs f i ls
  | [], _, _, _, h => by cases h
  | x :: l, i, 0, v, h => by
    have h : x = some v := h
    subst h
    exact List.mem_cons_self
  | none :: l, i, a + 1, v, h => by
    have := am_prs_get (f := f) (i := i + 1) (show am_get l a = some v from h)
    rw [show i + (a + 1) = i + 1 + a by omega]
    exact this
  | some w :: l, i, a + 1, v, h => by
    have := am_prs_get (f := f) (i := i + 1) (show am_get l a = some v from h)
    rw [show i + (a + 1) = i + 1 + a by omega]
    exact List.mem_cons_of_mem _ this
theorem am_prs_ge {f : am_V → Value} : ∀ {ls : List (Option am_V)} {i : Nat} {q : Nat × Value}, q ∈ am_prs f i ls → i ≤ q.1 ∧ ∃ v, some v ∈ ls ∧ q.2 = f v
  | [], _, _, h => by cases h
  | none :: l, i, q, h => by
    obtain ⟨h1, v, h2, h3⟩ := am_prs_ge (f := f) (ls := l) (i := i + 1) h
    exact ⟨by omega, v, List.mem_cons_of_mem _ h2, h3⟩
  | some w :: l, i, q, h => by
    rcases List.mem_cons.mp h with rfl | h
    · exact ⟨Nat.le_refl _, w, List.mem_cons_self, rfl⟩
    · obtain ⟨h1, v, h2, h3⟩ := am_prs_ge (f := f) (ls := l) (i := i + 1) h
      exact ⟨by omega, v, List.mem_cons_of_mem _ h2, h3⟩
theorem am_prs_set {f : am_V → Value} : ∀ {ls : List (Option am_V)} {i a : Nat} {v : am_V} {q : Nat × Value}, q ∈ am_prs f i (am_set ls a v) → q = (i + a, f v) ∨ (q ∈ am_prs f i ls ∧ q.1 ≠ i + a)
  | [], _, _, _, _, h => by cases h
  | x :: l, i, 0, v, q, h => by
    rcases List.mem_cons.mp (show q ∈ (i, f v) :: am_prs f (i + 1) l from h) with h9 | h9
    · exact Or.inl h9
    · have := (am_prs_ge h9).1
      refine Or.inr ⟨?_, by omega⟩
      cases x with
      | none => exact h9
      | some w => exact List.mem_cons_of_mem _ h9
  | none :: l, i, a + 1, v, q, h => by
    rcases am_prs_set (f := f) (ls := l) (i := i + 1) (show q ∈ am_prs f (i + 1) (am_set l a v) from h) with h | ⟨h, h2⟩
    · exact Or.inl (by rw [h, show i + 1 + a = i + (a + 1) by omega])
    · exact Or.inr ⟨h, by omega⟩
  | some w :: l, i, a + 1, v, q, h => by
    rcases List.mem_cons.mp (show q ∈ (i, f w) :: am_prs f (i + 1) (am_set l a v) from h) with h | h
    · subst h
      exact Or.inr ⟨List.mem_cons_self, by show i ≠ i + (a + 1); omega⟩
    · rcases am_prs_set (f := f) (ls := l) (i := i + 1) h with h | ⟨h, h2⟩
      · exact Or.inl (by rw [h, show i + 1 + a = i + (a + 1) by omega])
      · exact Or.inr ⟨List.mem_cons_of_mem _ h, by omega⟩
theorem am_mem_set : ∀ {ls : List (Option am_V)} {a : Nat} {v w : am_V}, some v ∈ am_set ls a w → v = w ∨ some v ∈ ls
  | [], _, _, _, h => by cases h
  | x :: l, 0, v, w, h => by
    rcases List.mem_cons.mp (show some v ∈ some w :: l from h) with h | h
    · exact Or.inl (Option.some.inj h)
    · exact Or.inr (List.mem_cons_of_mem _ h)
  | x :: l, a + 1, v, w, h => by
    rcases List.mem_cons.mp (show some v ∈ x :: am_set l a w from h) with h | h
    · exact Or.inr (by rw [h]; exact List.mem_cons_self)
    · rcases am_mem_set h with h | h
      · exact Or.inl h
      · exact Or.inr (List.mem_cons_of_mem _ h)
theorem am_get_mem : ∀ {ls : List (Option am_V)} {a : Nat} {v : am_V}, am_get ls a = some v → some v ∈ ls
  | [], _, _, h => by cases h
  | x :: l, 0, v, h => by rw [show x = some v from h]; exact List.mem_cons_self
  | x :: l, a + 1, v, h => List.mem_cons_of_mem _ (am_get_mem (show am_get l a = some v from h))
theorem am_lvm {ls : Array Slot} {n : Nat} {l l' : List (Nat × Value)} (h : lv_has ls n l) (hs : ∀ q ∈ l', q ∈ l) : lv_has ls n l' := ⟨h.1, h.2.1, fun q hq => h.2.2 q (hs q hq)⟩
/-! the world -/
def am_fv (ad : Nat → Nat → Nat) (M : am_M) (g k j : Nat) : Value := if am_fk g j = 1 then va_rf ((M.2.1 g k j).map (fun r => ad r.1 r.2)) else .int (M.1 g k j)
def am_ce (cs : Nat → ClassId) (ad : Nat → Nat → Nat) (M : am_M) (q : Nat × Nat) : va_E :=
  if q.1 ≤ 8 then .inr (q.1, (List.range (am_N q.1)).map (am_fv ad M q.1 q.2))
  else if q.1 ≤ 79 then .inl (cs 0, M.2.2.2.1 q.1 q.2, .inl (M.1 q.1 q.2))
  else .inl (cs (1 + am_ge q.1), M.2.2.2.1 q.1 q.2, .inr (.inr (.inr (.inr (fun i => (M.2.1 q.1 q.2 i).map (fun r => ad r.1 r.2))))))
def am_ws (cs : Nat → ClassId) (ad : Nat → Nat → Nat) (M : am_M) (L : List (Nat × Nat)) : va_W := L.map (fun q => (ad q.1 q.2, am_ce cs ad M q))
def am_inj (L : List (Nat × Nat)) : Prop := ∀ (i j : Nat) (q : Nat × Nat), L[i]? = some q → L[j]? = some q → i = j
def am_wf (xs : Nat → Int32) (Ls : Nat) (L : List (Nat × Nat)) (M : am_M) : Prop := am_inj L ∧ (∀ g k, (g, k) ∈ L ↔ (g ≤ 95 ∧ k < M.2.2.1 g)) ∧ (∀ g k j r, (g, k) ∈ L → M.2.1 g k j = some r → r ∈ L) ∧ M.1 96 0 = xs ∧ M.2.2.2.1 96 0 = Ls
theorem am_ws_at {cs : Nat → ClassId} {ad : Nat → Nat → Nat} {M : am_M} {L : List (Nat × Nat)} {q : Nat × Nat} (h : q ∈ L) : ∃ k : Nat, L[k]? = some q ∧ (am_ws cs ad M L)[k]? = some (ad q.1 q.2, am_ce cs ad M q) := by
  obtain ⟨k, hk⟩ := List.getElem?_of_mem h
  exact ⟨k, hk, by unfold am_ws; rw [List.getElem?_map, hk]; rfl⟩
theorem am_ws_set {cs : Nat → ClassId} {ad : Nat → Nat → Nat} {M M' : am_M} {L : List (Nat × Nat)} {q : Nat × Nat} {k : Nat} {e : va_E} (hk : L[k]? = some q) (hn : am_inj L) (h1 : am_ce cs ad M' q = e) (h2 : ∀ q' ∈ L, q' ≠ q → am_ce cs ad M' q' = am_ce cs ad M q') :
    (am_ws cs ad M L).set k (ad q.1 q.2, e) = am_ws cs ad M' L := by
  apply List.ext_getElem?
  intro i
  unfold am_ws
  rw [List.getElem?_set]
  by_cases hi : k = i
  · subst hi
    have hl : k < (L.map (fun q => (ad q.1 q.2, am_ce cs ad M q))).length := by rw [List.length_map]; exact (List.getElem?_eq_some_iff.mp hk).1
    rw [if_pos rfl, if_pos hl, List.getElem?_map, hk]
    simp only [Option.map_some, h1]
  · rw [if_neg hi, List.getElem?_map, List.getElem?_map]
    cases hq : L[i]? with
    | none => rfl
    | some q' =>
      simp only [Option.map_some]
      rw [h2 q' (List.mem_of_getElem? hq) (fun z => hi (hn k i q hk (by rw [hq, z])))]
theorem am_inj_push {L : List (Nat × Nat)} {q : Nat × Nat} (h : am_inj L) (hq : q ∉ L) : am_inj (L ++ [q]) := by
  intro i j z hi hj
  have key : ∀ i : Nat, (L ++ [q])[i]? = some z → (i < L.length ∧ L[i]? = some z) ∨ (i = L.length ∧ z = q) := by
    intro i hi
    by_cases hl : i < L.length
    · rw [List.getElem?_append_left hl] at hi
      exact Or.inl ⟨hl, hi⟩
    · rw [List.getElem?_append_right (by omega)] at hi
      have h1 := List.mem_of_getElem? hi
      have h2 := (List.getElem?_eq_some_iff.mp hi).1
      simp only [List.length_cons, List.length_nil] at h2
      exact Or.inr ⟨by omega, List.mem_singleton.mp h1⟩
  rcases key i hi with ⟨a1, a2⟩ | ⟨a1, a2⟩ <;> rcases key j hj with ⟨b1, b2⟩ | ⟨b1, b2⟩
  · exact h i j z a2 b2
  · exact absurd (List.mem_of_getElem? a2) (by rw [b2]; exact hq)
  · exact absurd (List.mem_of_getElem? b2) (by rw [a2]; exact hq)
  · omega
theorem am_ws_push {cs : Nat → ClassId} {ad ad1 : Nat → Nat → Nat} {M M' : am_M} {L : List (Nat × Nat)} {q : Nat × Nat} {a : Nat} {e : va_E} (ha : ad1 q.1 q.2 = a) (h1 : am_ce cs ad1 M' q = e) (h2 : ∀ q' ∈ L, ad1 q'.1 q'.2 = ad q'.1 q'.2 ∧ am_ce cs ad1 M' q' = am_ce cs ad M q') :
    am_ws cs ad M L ++ [(a, e)] = am_ws cs ad1 M' (L ++ [q]) := by
  unfold am_ws
  rw [List.map_append]
  congr 1
  · exact List.map_congr_left fun q' hq' => by rw [(h2 q' hq').1, (h2 q' hq').2]
  · simp only [List.map_cons, List.map_nil, ha, h1]
theorem am_rv_in {sa : Nat → Nat → Nat} {fm : Option Nat} {ad : Nat → Nat → Nat} {L : List (Nat × Nat)} {xs : Nat → Int32} {Ls : Nat} {M : am_M} (hw : am_wf xs Ls L M) {r : Option (Nat × Nat)} (h : ∀ q, r = some q → q ∈ L) : am_rv sa fm ad r = va_rf (r.map (fun r => ad r.1 r.2)) := by
  cases r with
  | none => rfl
  | some q =>
    have h1 := (hw.2.1 q.1 q.2).mp (h q rfl)
    simp only [am_rv, h1.1, if_true]
    rfl
theorem am_okr_mem {L : List (Nat × Nat)} {xs : Nat → Int32} {Ls : Nat} {M : am_M} (hw : am_wf xs Ls L M) {r : Option (Nat × Nat)} (h : ∀ q, r = some q → q ∈ L) : am_okr L r := by
  cases r with
  | none => trivial
  | some q =>
    have h1 := (hw.2.1 q.1 q.2).mp (h q rfl)
    exact am_okr_of (h q rfl) h1.1
