/-! levels and pieces: the model parses as pz does -/
def mLv : Nat → Nat
  | 0 => mX8_either
  | 1 => mX8_both
  | 2 => mX8_test
  | 3 => mX8_sum
  | 4 => mX8_term
  | _ => mX8_part0
def SMl (X : am_Z) (t : Nat → Nat) (n la key F : Nat) : Prop := ∀ (lv ro no : Nat) (p : Pa) (I : Im) (D : Nat) (x : Int32), lv ≤ 5 → ro ≤ 8 → no ≤ 8 → x = nI key → Md I t n la key ro no p → Wt t n p.1 → p.2.length ≤ p.1.2.1 → 20 * (8 - ro) + 3 * (8 - no) + (5 - lv) + 1 ≤ F → F + 6 ≤ D → Sw (mLv lv) [.inr (.inr (some (8, 0))), .inl x] D I X (some (.inl (vB (pz t n key F lv ro no p).1))) (PrM I t n la key ro no (pz t n key F lv ro no p))
theorem PrM_t {I t n la key ro no q I'} (h : Md I' t n la key ro no q) (F : FrQ8 la I I') : PrM I t n la key ro no (true, q) I' := ⟨F, h.1.2.2.1, fun _ => h⟩
theorem PrM_f {I t n la key ro no q I'} (h : I' 8 0 19 = nI q.1.2.1) (F : FrQ8 la I I') : PrM I t n la key ro no (false, q) I' := ⟨F, h, fun z => by cases z⟩
theorem MdS_no {I : Im} {la key ro no no' l} (h : MdS I la key ro no l) : MdS (up3 I 8 0 25 (nI no')) la key ro no' l := by
  obtain ⟨a, b, c, e, f, g⟩ := h
  exact ⟨by rw [up3_j (by decide)]; exact a, up3_s, by rw [up3_j (by decide)]; exact c, by rw [up3_j (by decide)]; exact e, by rw [up3_j (by decide)]; exact f, g⟩
theorem MdS_ro {I : Im} {la key ro ro' no l} (h : MdS I la key ro no l) : MdS (up3 I 8 0 24 (nI ro')) la key ro' no l := by
  obtain ⟨a, b, c, e, f, g⟩ := h
  exact ⟨up3_s, by rw [up3_j (by decide)]; exact b, by rw [up3_j (by decide)]; exact c, by rw [up3_j (by decide)]; exact e, by rw [up3_j (by decide)]; exact f, g⟩
/-- the memory behind a step -/
theorem Fr_st {la m : Nat} {I I' : Im} {a v w : Int32} (F : FrQ8 la I I') (hm : m < 96) : FrQ8 la I (up3 (up3 (up3 I' 30 0 (la + 2 * m) a) 30 0 (la + 2 * m + 1) v) 8 0 26 w) := FrQ8_3 (FrQ8_s (FrQ8_s F (by omega)) (by omega)) (by decide)
theorem Md_st {I : Im} {t n la key ro no} {q : Pa} {i : Nat} {v : Int32} (h : Md I t n la key ro no q) (hv : v = nI (enM key (2, i))) : Md (up3 (up3 (up3 I 30 0 (la + 2 * q.2.length) 2) 30 0 (la + 2 * q.2.length + 1) v) 8 0 26 (nI (q.2.length + 1))) t n la key ro no (q.1, q.2 ++ [(2, i)]) := ⟨MdT_u (MdT_s (MdT_s h.1)) (by decide), MdS_1 h.2 rfl rfl hv⟩
theorem sgA_no {t : Nat → Nat} {lv c : Nat} {tk : Tk} (h : sgA t lv tk = none) (hc : lvI (sgI c) = lv) : ¬ (tk.1 = 3 ∧ t tk.2.1 = c) := fun z => by
  unfold sgA at h
  rw [if_pos ⟨z.1, by rw [z.2]; exact hc⟩] at h
  cases h
theorem sgI_ne {b : Nat} (h : lvI (sgI b) ≤ 4) : b = 124 ∨ b = 38 ∨ b = 60 ∨ b = 61 ∨ b = 62 ∨ b = 43 ∨ b = 45 ∨ b = 42 ∨ b = 47 := by
  unfold sgI at h
  repeat' split at h
  all_goals first
    | (rename_i e; subst e; decide)
    | (exact absurd h (by decide))
theorem sgl_0 {b : Nat} (h : lvI (sgI b) = 0) : b = 124 := by
  rcases sgI_ne (b := b) (by omega) with rfl | rfl | rfl | rfl | rfl | rfl | rfl | rfl | rfl
  all_goals first
    | (exact absurd h (by decide))
    | decide
theorem sgl_1 {b : Nat} (h : lvI (sgI b) = 1) : b = 38 := by
  rcases sgI_ne (b := b) (by omega) with rfl | rfl | rfl | rfl | rfl | rfl | rfl | rfl | rfl
  all_goals first
    | (exact absurd h (by decide))
    | decide
theorem sgl_2 {b : Nat} (h : lvI (sgI b) = 2) : b = 60 ∨ b = 61 ∨ b = 62 := by
  rcases sgI_ne (b := b) (by omega) with rfl | rfl | rfl | rfl | rfl | rfl | rfl | rfl | rfl
  all_goals first
    | (exact absurd h (by decide))
    | decide
theorem sgl_3 {b : Nat} (h : lvI (sgI b) = 3) : b = 43 ∨ b = 45 := by
  rcases sgI_ne (b := b) (by omega) with rfl | rfl | rfl | rfl | rfl | rfl | rfl | rfl | rfl
  all_goals first
    | (exact absurd h (by decide))
    | decide
theorem sgl_4 {b : Nat} (h : lvI (sgI b) = 4) : b = 42 ∨ b = 47 := by
  rcases sgI_ne (b := b) (by omega) with rfl | rfl | rfl | rfl | rfl | rfl | rfl | rfl | rfl
  all_goals first
    | (exact absurd h (by decide))
    | decide
theorem l_m0 {X : am_Z} {t : Nat → Nat} {n la key F ro no : Nat} (hn : n ≤ 96) (ht : ∀ j, j < n → t j < 256) (hla : la ≤ 2954) (H : SMl X t n la key F) (hro : ro ≤ 8) (hno : no ≤ 8) (hF : 20 * (8 - ro) + 3 * (8 - no) + (5 - (0 + 1)) + 1 ≤ F) {x : Int32} (hx : x = nI key) {g gs d Q} {I0 : Im} (hd : F + 6 ≤ d + 5) : ∀ (m : Nat) (p : Pa) (I : Im) , 96 ≤ p.1.2.1 + m → Md I t n la key ro no p → Wt t n p.1 → p.2.length ≤ p.1.2.1 → FrQ8 la I0 I →
    (∀ I', PrM I0 t n la key ro no (lpL (pz t n key F (0 + 1) ro no) (nxT t n) (sgA t 0) (0 == 2) m p) I' → am_WP (am_psh g (some (.inl (vB (lpL (pz t n key F (0 + 1) ro no) (nxT t n) (sgA t 0) (0 == 2) m p).1))) :: gs) (d + 7) (mk I' X) Q) →
    am_WP ((mX8_either, 10, [some (.inr (.inr (some (8, 0)))), some (.inl x)], []) :: g :: gs) (d + 6) (mk I X) Q
  | 0, p, I, hm, h, hW, hl, F0, K => by
    obtain ⟨w1, w2, w3, w4, w5, w6⟩ := id hW
    exact w_m0_e hn ht h.1 hW (fun z => by omega) (K I (PrM_t h F0))
  | m + 1, p, I, hm, h, hW, hl, F0, K => by
    obtain ⟨w1, w2, w3, w4, w5, w6⟩ := id hW
    have hw := nxT_W (t := t) (n := n) (tk := p.1) w2
    rcases es : sgA t 0 p.1 with _ | i
    · have eL : lpL (pz t n key F (0 + 1) ro no) (nxT t n) (sgA t 0) (0 == 2) (m + 1) p = (true, p) := by rw [lpL, es]
      rw [eL] at K
      exact w_m0_e hn ht h.1 hW (sgA_no es rfl) (K I (PrM_t h F0))
    · obtain ⟨s1, s2, s3, s4⟩ := sgA_s es (by decide)
      have h1 := w4 (by omega)
      have c2 : ∀ I1 : Im, MdT I1 t n (nxT t n p.1) ∧ FrA8 I I1 → Sw mX8_both [.inr (.inr (some (8, 0))), .inl x] (d + 5) I1 X (some (.inl (vB (pz t n key F (0 + 1) ro no (nxT t n p.1, p.2)).1))) (PrM I1 t n la key ro no (pz t n key F (0 + 1) ro no (nxT t n p.1, p.2))) := fun I1 p1 => H (0 + 1) ro no (nxT t n p.1, p.2) I1 (d + 5) x (by omega) hro hno hx ⟨p1.1, MdS_A h.2 p1.2⟩ hw.1 (by show p.2.length ≤ (nxT t n p.1).2.1; omega) (by omega) (by omega)
      have hz := pz_ok (t := t) (n := n) (key := key) F (0 + 1) ro no (nxT t n p.1, p.2) hw.1
      have eM : ∀ r, pz t n key F (0 + 1) ro no (nxT t n p.1, p.2) = r → lpL (pz t n key F (0 + 1) ro no) (nxT t n) (sgA t 0) (0 == 2) (m + 1) p = (match r with | (false, q) => (false, q) | (true, q) => if (0 == 2) = true then (true, (q.1, q.2 ++ [(2, i)])) else lpL (pz t n key F (0 + 1) ro no) (nxT t n) (sgA t 0) (0 == 2) m (q.1, q.2 ++ [(2, i)])) := fun r hr => by
        rw [lpL, es]
        show (match pz t n key F (0 + 1) ro no (nxT t n p.1, p.2) with | (false, q) => (false, q) | (true, q) => if (0 == 2) = true then (true, (q.1, q.2 ++ [(2, i)])) else lpL (pz t n key F (0 + 1) ro no) (nxT t n) (sgA t 0) (0 == 2) m (q.1, q.2 ++ [(2, i)])) = _
        rw [hr]
      have h23 := h.1.2.2.2.2.2.2.1 s1
      rcases er : pz t n key F (0 + 1) ro no (nxT t n p.1, p.2) with ⟨_ | _, q⟩
      · rw [er] at c2
        rw [eM _ er] at K
        have K0 : ∀ I1 I2 : Im, FrA8 I I1 → PrM I1 t n la key ro no (false, q) I2 → am_WP (am_psh g (some (.inl 0)) :: gs) (d + 7) (mk I2 X) Q := fun I1 I2 a b => K I2 ⟨FrQ8_t (FrQ8_t F0 (FrQ8_A a)) b.1, b.2.1, fun z => by cases z⟩
        rcases sgl_0 (b := t p.1.2.1) (by rw [← s3]; exact s4) with kb
        · rw [kb] at h23
          exact w_m0_124_0 hn ht h.1 hW hla s1 kb h23 (q := q) c2 (fun I1 p1 I2 p2 => K0 I1 I2 p1.2 p2)
      · rw [er] at c2 hz
        rw [eM _ er] at K
        have l1 : q.2.length + (nxT t n p.1).2.1 ≤ p.2.length + q.1.2.1 := (hz.2.2 rfl).1
        have q1 : q.1.2.1 ≤ q.1.2.2 := hz.1.1
        have q2 : q.1.2.2 ≤ n := hz.1.2.1
        rcases sgl_0 (b := t p.1.2.1) (by rw [← s3]; exact s4) with kb
        · rw [kb] at h23
          have ei : i = 0 := by rw [s3, kb]; rfl
          subst ei
          exact w_m0_124_1 hn ht h.1 hW hla s1 kb h23 (q := q) (by omega) c2 (fun I1 p1 I2 p2 => l_m0 hn ht hla H hro hno hF hx hd m (q.1, q.2 ++ [(2, 0)]) _ (by show 96 ≤ q.1.2.1 + m; have : (nxT t n p.1).2.1 ≤ q.1.2.1 := hz.2.1; omega) (Md_st (p2.2.2 rfl) rfl) hz.1 (by show (q.2 ++ [(2, 0)]).length ≤ q.1.2.1; rw [len_a]; omega) (Fr_st (FrQ8_t (FrQ8_t F0 (FrQ8_A p1.2)) p2.1) (by omega)) K)
theorem l_m1 {X : am_Z} {t : Nat → Nat} {n la key F ro no : Nat} (hn : n ≤ 96) (ht : ∀ j, j < n → t j < 256) (hla : la ≤ 2954) (H : SMl X t n la key F) (hro : ro ≤ 8) (hno : no ≤ 8) (hF : 20 * (8 - ro) + 3 * (8 - no) + (5 - (1 + 1)) + 1 ≤ F) {x : Int32} (hx : x = nI key) {g gs d Q} {I0 : Im} (hd : F + 6 ≤ d + 5) : ∀ (m : Nat) (p : Pa) (I : Im) , 96 ≤ p.1.2.1 + m → Md I t n la key ro no p → Wt t n p.1 → p.2.length ≤ p.1.2.1 → FrQ8 la I0 I →
    (∀ I', PrM I0 t n la key ro no (lpL (pz t n key F (1 + 1) ro no) (nxT t n) (sgA t 1) (1 == 2) m p) I' → am_WP (am_psh g (some (.inl (vB (lpL (pz t n key F (1 + 1) ro no) (nxT t n) (sgA t 1) (1 == 2) m p).1))) :: gs) (d + 7) (mk I' X) Q) →
    am_WP ((mX8_both, 10, [some (.inr (.inr (some (8, 0)))), some (.inl x)], []) :: g :: gs) (d + 6) (mk I X) Q
  | 0, p, I, hm, h, hW, hl, F0, K => by
    obtain ⟨w1, w2, w3, w4, w5, w6⟩ := id hW
    exact w_m1_e hn ht h.1 hW (fun z => by omega) (K I (PrM_t h F0))
  | m + 1, p, I, hm, h, hW, hl, F0, K => by
    obtain ⟨w1, w2, w3, w4, w5, w6⟩ := id hW
    have hw := nxT_W (t := t) (n := n) (tk := p.1) w2
    rcases es : sgA t 1 p.1 with _ | i
    · have eL : lpL (pz t n key F (1 + 1) ro no) (nxT t n) (sgA t 1) (1 == 2) (m + 1) p = (true, p) := by rw [lpL, es]
      rw [eL] at K
      exact w_m1_e hn ht h.1 hW (sgA_no es rfl) (K I (PrM_t h F0))
    · obtain ⟨s1, s2, s3, s4⟩ := sgA_s es (by decide)
      have h1 := w4 (by omega)
      have c2 : ∀ I1 : Im, MdT I1 t n (nxT t n p.1) ∧ FrA8 I I1 → Sw mX8_test [.inr (.inr (some (8, 0))), .inl x] (d + 5) I1 X (some (.inl (vB (pz t n key F (1 + 1) ro no (nxT t n p.1, p.2)).1))) (PrM I1 t n la key ro no (pz t n key F (1 + 1) ro no (nxT t n p.1, p.2))) := fun I1 p1 => H (1 + 1) ro no (nxT t n p.1, p.2) I1 (d + 5) x (by omega) hro hno hx ⟨p1.1, MdS_A h.2 p1.2⟩ hw.1 (by show p.2.length ≤ (nxT t n p.1).2.1; omega) (by omega) (by omega)
      have hz := pz_ok (t := t) (n := n) (key := key) F (1 + 1) ro no (nxT t n p.1, p.2) hw.1
      have eM : ∀ r, pz t n key F (1 + 1) ro no (nxT t n p.1, p.2) = r → lpL (pz t n key F (1 + 1) ro no) (nxT t n) (sgA t 1) (1 == 2) (m + 1) p = (match r with | (false, q) => (false, q) | (true, q) => if (1 == 2) = true then (true, (q.1, q.2 ++ [(2, i)])) else lpL (pz t n key F (1 + 1) ro no) (nxT t n) (sgA t 1) (1 == 2) m (q.1, q.2 ++ [(2, i)])) := fun r hr => by
        rw [lpL, es]
        show (match pz t n key F (1 + 1) ro no (nxT t n p.1, p.2) with | (false, q) => (false, q) | (true, q) => if (1 == 2) = true then (true, (q.1, q.2 ++ [(2, i)])) else lpL (pz t n key F (1 + 1) ro no) (nxT t n) (sgA t 1) (1 == 2) m (q.1, q.2 ++ [(2, i)])) = _
        rw [hr]
      have h23 := h.1.2.2.2.2.2.2.1 s1
      rcases er : pz t n key F (1 + 1) ro no (nxT t n p.1, p.2) with ⟨_ | _, q⟩
      · rw [er] at c2
        rw [eM _ er] at K
        have K0 : ∀ I1 I2 : Im, FrA8 I I1 → PrM I1 t n la key ro no (false, q) I2 → am_WP (am_psh g (some (.inl 0)) :: gs) (d + 7) (mk I2 X) Q := fun I1 I2 a b => K I2 ⟨FrQ8_t (FrQ8_t F0 (FrQ8_A a)) b.1, b.2.1, fun z => by cases z⟩
        rcases sgl_1 (b := t p.1.2.1) (by rw [← s3]; exact s4) with kb
        · rw [kb] at h23
          exact w_m1_38_0 hn ht h.1 hW hla s1 kb h23 (q := q) c2 (fun I1 p1 I2 p2 => K0 I1 I2 p1.2 p2)
      · rw [er] at c2 hz
        rw [eM _ er] at K
        have l1 : q.2.length + (nxT t n p.1).2.1 ≤ p.2.length + q.1.2.1 := (hz.2.2 rfl).1
        have q1 : q.1.2.1 ≤ q.1.2.2 := hz.1.1
        have q2 : q.1.2.2 ≤ n := hz.1.2.1
        rcases sgl_1 (b := t p.1.2.1) (by rw [← s3]; exact s4) with kb
        · rw [kb] at h23
          have ei : i = 1 := by rw [s3, kb]; rfl
          subst ei
          exact w_m1_38_1 hn ht h.1 hW hla s1 kb h23 (q := q) (by omega) c2 (fun I1 p1 I2 p2 => l_m1 hn ht hla H hro hno hF hx hd m (q.1, q.2 ++ [(2, 1)]) _ (by show 96 ≤ q.1.2.1 + m; have : (nxT t n p.1).2.1 ≤ q.1.2.1 := hz.2.1; omega) (Md_st (p2.2.2 rfl) rfl) hz.1 (by show (q.2 ++ [(2, 1)]).length ≤ q.1.2.1; rw [len_a]; omega) (Fr_st (FrQ8_t (FrQ8_t F0 (FrQ8_A p1.2)) p2.1) (by omega)) K)
theorem l_m2 {X : am_Z} {t : Nat → Nat} {n la key F ro no : Nat} (hn : n ≤ 96) (ht : ∀ j, j < n → t j < 256) (hla : la ≤ 2954) (H : SMl X t n la key F) (hro : ro ≤ 8) (hno : no ≤ 8) (hF : 20 * (8 - ro) + 3 * (8 - no) + (5 - (2 + 1)) + 1 ≤ F) {x : Int32} (hx : x = nI key) {g gs d Q} {I0 : Im} (hd : F + 6 ≤ d + 5) : ∀ (m : Nat) (p : Pa) (I : Im) (y2 : Option am_V) , 96 ≤ p.1.2.1 + m → Md I t n la key ro no p → Wt t n p.1 → p.2.length ≤ p.1.2.1 → FrQ8 la I0 I →
    (∀ I', PrM I0 t n la key ro no (lpL (pz t n key F (2 + 1) ro no) (nxT t n) (sgA t 2) (2 == 2) m p) I' → am_WP (am_psh g (some (.inl (vB (lpL (pz t n key F (2 + 1) ro no) (nxT t n) (sgA t 2) (2 == 2) m p).1))) :: gs) (d + 7) (mk I' X) Q) →
    am_WP ((mX8_test, 10, [some (.inr (.inr (some (8, 0)))), some (.inl x), y2], []) :: g :: gs) (d + 6) (mk I X) Q
  | 0, p, I, y2, hm, h, hW, hl, F0, K => by
    obtain ⟨w1, w2, w3, w4, w5, w6⟩ := id hW
    exact w_m2_e hn ht h.1 hW (fun z => by omega) (fun z => by omega) (fun z => by omega) (K I (PrM_t h F0))
  | m + 1, p, I, y2, hm, h, hW, hl, F0, K => by
    obtain ⟨w1, w2, w3, w4, w5, w6⟩ := id hW
    have hw := nxT_W (t := t) (n := n) (tk := p.1) w2
    rcases es : sgA t 2 p.1 with _ | i
    · have eL : lpL (pz t n key F (2 + 1) ro no) (nxT t n) (sgA t 2) (2 == 2) (m + 1) p = (true, p) := by rw [lpL, es]
      rw [eL] at K
      exact w_m2_e hn ht h.1 hW (sgA_no es rfl) (sgA_no es rfl) (sgA_no es rfl) (K I (PrM_t h F0))
    · obtain ⟨s1, s2, s3, s4⟩ := sgA_s es (by decide)
      have h1 := w4 (by omega)
      have c2 : ∀ I1 : Im, MdT I1 t n (nxT t n p.1) ∧ FrA8 I I1 → Sw mX8_sum [.inr (.inr (some (8, 0))), .inl x] (d + 5) I1 X (some (.inl (vB (pz t n key F (2 + 1) ro no (nxT t n p.1, p.2)).1))) (PrM I1 t n la key ro no (pz t n key F (2 + 1) ro no (nxT t n p.1, p.2))) := fun I1 p1 => H (2 + 1) ro no (nxT t n p.1, p.2) I1 (d + 5) x (by omega) hro hno hx ⟨p1.1, MdS_A h.2 p1.2⟩ hw.1 (by show p.2.length ≤ (nxT t n p.1).2.1; omega) (by omega) (by omega)
      have hz := pz_ok (t := t) (n := n) (key := key) F (2 + 1) ro no (nxT t n p.1, p.2) hw.1
      have eM : ∀ r, pz t n key F (2 + 1) ro no (nxT t n p.1, p.2) = r → lpL (pz t n key F (2 + 1) ro no) (nxT t n) (sgA t 2) (2 == 2) (m + 1) p = (match r with | (false, q) => (false, q) | (true, q) => if (2 == 2) = true then (true, (q.1, q.2 ++ [(2, i)])) else lpL (pz t n key F (2 + 1) ro no) (nxT t n) (sgA t 2) (2 == 2) m (q.1, q.2 ++ [(2, i)])) := fun r hr => by
        rw [lpL, es]
        show (match pz t n key F (2 + 1) ro no (nxT t n p.1, p.2) with | (false, q) => (false, q) | (true, q) => if (2 == 2) = true then (true, (q.1, q.2 ++ [(2, i)])) else lpL (pz t n key F (2 + 1) ro no) (nxT t n) (sgA t 2) (2 == 2) m (q.1, q.2 ++ [(2, i)])) = _
        rw [hr]
      have h23 := h.1.2.2.2.2.2.2.1 s1
      rcases er : pz t n key F (2 + 1) ro no (nxT t n p.1, p.2) with ⟨_ | _, q⟩
      · rw [er] at c2
        rw [eM _ er] at K
        have K0 : ∀ I1 I2 : Im, FrA8 I I1 → PrM I1 t n la key ro no (false, q) I2 → am_WP (am_psh g (some (.inl 0)) :: gs) (d + 7) (mk I2 X) Q := fun I1 I2 a b => K I2 ⟨FrQ8_t (FrQ8_t F0 (FrQ8_A a)) b.1, b.2.1, fun z => by cases z⟩
        rcases sgl_2 (b := t p.1.2.1) (by rw [← s3]; exact s4) with kb | kb | kb
        · rw [kb] at h23
          exact w_m2_60_0 hn ht h.1 hW hla s1 kb h23 (q := q) c2 (fun I1 p1 I2 p2 => K0 I1 I2 p1.2 p2)
        · rw [kb] at h23
          exact w_m2_61_0 hn ht h.1 hW hla s1 kb h23 (q := q) c2 (fun I1 p1 I2 p2 => K0 I1 I2 p1.2 p2)
        · rw [kb] at h23
          exact w_m2_62_0 hn ht h.1 hW hla s1 kb h23 (q := q) c2 (fun I1 p1 I2 p2 => K0 I1 I2 p1.2 p2)
      · rw [er] at c2 hz
        rw [eM _ er] at K
        have l1 : q.2.length + (nxT t n p.1).2.1 ≤ p.2.length + q.1.2.1 := (hz.2.2 rfl).1
        have q1 : q.1.2.1 ≤ q.1.2.2 := hz.1.1
        have q2 : q.1.2.2 ≤ n := hz.1.2.1
        rcases sgl_2 (b := t p.1.2.1) (by rw [← s3]; exact s4) with kb | kb | kb
        · rw [kb] at h23
          have ei : i = 2 := by rw [s3, kb]; rfl
          subst ei
          exact w_m2_60_1 hn ht h.1 hW hla s1 kb h23 (q := q) (by omega) c2 (fun I1 p1 I2 p2 => K _ (PrM_t (Md_st (p2.2.2 rfl) rfl) (Fr_st (FrQ8_t (FrQ8_t F0 (FrQ8_A p1.2)) p2.1) (by omega))))
        · rw [kb] at h23
          have ei : i = 3 := by rw [s3, kb]; rfl
          subst ei
          exact w_m2_61_1 hn ht h.1 hW hla s1 kb h23 (q := q) (by omega) c2 (fun I1 p1 I2 p2 => K _ (PrM_t (Md_st (p2.2.2 rfl) rfl) (Fr_st (FrQ8_t (FrQ8_t F0 (FrQ8_A p1.2)) p2.1) (by omega))))
        · rw [kb] at h23
          have ei : i = 4 := by rw [s3, kb]; rfl
          subst ei
          exact w_m2_62_1 hn ht h.1 hW hla s1 kb h23 (q := q) (by omega) c2 (fun I1 p1 I2 p2 => K _ (PrM_t (Md_st (p2.2.2 rfl) rfl) (Fr_st (FrQ8_t (FrQ8_t F0 (FrQ8_A p1.2)) p2.1) (by omega))))
theorem l_m3 {X : am_Z} {t : Nat → Nat} {n la key F ro no : Nat} (hn : n ≤ 96) (ht : ∀ j, j < n → t j < 256) (hla : la ≤ 2954) (H : SMl X t n la key F) (hro : ro ≤ 8) (hno : no ≤ 8) (hF : 20 * (8 - ro) + 3 * (8 - no) + (5 - (3 + 1)) + 1 ≤ F) {x : Int32} (hx : x = nI key) {g gs d Q} {I0 : Im} (hd : F + 6 ≤ d + 5) : ∀ (m : Nat) (p : Pa) (I : Im) (y2 : Option am_V) , 96 ≤ p.1.2.1 + m → Md I t n la key ro no p → Wt t n p.1 → p.2.length ≤ p.1.2.1 → FrQ8 la I0 I →
    (∀ I', PrM I0 t n la key ro no (lpL (pz t n key F (3 + 1) ro no) (nxT t n) (sgA t 3) (3 == 2) m p) I' → am_WP (am_psh g (some (.inl (vB (lpL (pz t n key F (3 + 1) ro no) (nxT t n) (sgA t 3) (3 == 2) m p).1))) :: gs) (d + 7) (mk I' X) Q) →
    am_WP ((mX8_sum, 10, [some (.inr (.inr (some (8, 0)))), some (.inl x), y2], []) :: g :: gs) (d + 6) (mk I X) Q
  | 0, p, I, y2, hm, h, hW, hl, F0, K => by
    obtain ⟨w1, w2, w3, w4, w5, w6⟩ := id hW
    exact w_m3_e hn ht h.1 hW (fun z => by omega) (fun z => by omega) (K I (PrM_t h F0))
  | m + 1, p, I, y2, hm, h, hW, hl, F0, K => by
    obtain ⟨w1, w2, w3, w4, w5, w6⟩ := id hW
    have hw := nxT_W (t := t) (n := n) (tk := p.1) w2
    rcases es : sgA t 3 p.1 with _ | i
    · have eL : lpL (pz t n key F (3 + 1) ro no) (nxT t n) (sgA t 3) (3 == 2) (m + 1) p = (true, p) := by rw [lpL, es]
      rw [eL] at K
      exact w_m3_e hn ht h.1 hW (sgA_no es rfl) (sgA_no es rfl) (K I (PrM_t h F0))
    · obtain ⟨s1, s2, s3, s4⟩ := sgA_s es (by decide)
      have h1 := w4 (by omega)
      have c2 : ∀ I1 : Im, MdT I1 t n (nxT t n p.1) ∧ FrA8 I I1 → Sw mX8_term [.inr (.inr (some (8, 0))), .inl x] (d + 5) I1 X (some (.inl (vB (pz t n key F (3 + 1) ro no (nxT t n p.1, p.2)).1))) (PrM I1 t n la key ro no (pz t n key F (3 + 1) ro no (nxT t n p.1, p.2))) := fun I1 p1 => H (3 + 1) ro no (nxT t n p.1, p.2) I1 (d + 5) x (by omega) hro hno hx ⟨p1.1, MdS_A h.2 p1.2⟩ hw.1 (by show p.2.length ≤ (nxT t n p.1).2.1; omega) (by omega) (by omega)
      have hz := pz_ok (t := t) (n := n) (key := key) F (3 + 1) ro no (nxT t n p.1, p.2) hw.1
      have eM : ∀ r, pz t n key F (3 + 1) ro no (nxT t n p.1, p.2) = r → lpL (pz t n key F (3 + 1) ro no) (nxT t n) (sgA t 3) (3 == 2) (m + 1) p = (match r with | (false, q) => (false, q) | (true, q) => if (3 == 2) = true then (true, (q.1, q.2 ++ [(2, i)])) else lpL (pz t n key F (3 + 1) ro no) (nxT t n) (sgA t 3) (3 == 2) m (q.1, q.2 ++ [(2, i)])) := fun r hr => by
        rw [lpL, es]
        show (match pz t n key F (3 + 1) ro no (nxT t n p.1, p.2) with | (false, q) => (false, q) | (true, q) => if (3 == 2) = true then (true, (q.1, q.2 ++ [(2, i)])) else lpL (pz t n key F (3 + 1) ro no) (nxT t n) (sgA t 3) (3 == 2) m (q.1, q.2 ++ [(2, i)])) = _
        rw [hr]
      have h23 := h.1.2.2.2.2.2.2.1 s1
      rcases er : pz t n key F (3 + 1) ro no (nxT t n p.1, p.2) with ⟨_ | _, q⟩
      · rw [er] at c2
        rw [eM _ er] at K
        have K0 : ∀ I1 I2 : Im, FrA8 I I1 → PrM I1 t n la key ro no (false, q) I2 → am_WP (am_psh g (some (.inl 0)) :: gs) (d + 7) (mk I2 X) Q := fun I1 I2 a b => K I2 ⟨FrQ8_t (FrQ8_t F0 (FrQ8_A a)) b.1, b.2.1, fun z => by cases z⟩
        rcases sgl_3 (b := t p.1.2.1) (by rw [← s3]; exact s4) with kb | kb
        · rw [kb] at h23
          exact w_m3_43_0 hn ht h.1 hW hla s1 kb h23 (q := q) c2 (fun I1 p1 I2 p2 => K0 I1 I2 p1.2 p2)
        · rw [kb] at h23
          exact w_m3_45_0 hn ht h.1 hW hla s1 kb h23 (q := q) c2 (fun I1 p1 I2 p2 => K0 I1 I2 p1.2 p2)
      · rw [er] at c2 hz
        rw [eM _ er] at K
        have l1 : q.2.length + (nxT t n p.1).2.1 ≤ p.2.length + q.1.2.1 := (hz.2.2 rfl).1
        have q1 : q.1.2.1 ≤ q.1.2.2 := hz.1.1
        have q2 : q.1.2.2 ≤ n := hz.1.2.1
        rcases sgl_3 (b := t p.1.2.1) (by rw [← s3]; exact s4) with kb | kb
        · rw [kb] at h23
          have ei : i = 5 := by rw [s3, kb]; rfl
          subst ei
          exact w_m3_43_1 hn ht h.1 hW hla s1 kb h23 (q := q) (by omega) c2 (fun I1 p1 I2 p2 => l_m3 hn ht hla H hro hno hF hx hd m (q.1, q.2 ++ [(2, 5)]) _ _ (by show 96 ≤ q.1.2.1 + m; have : (nxT t n p.1).2.1 ≤ q.1.2.1 := hz.2.1; omega) (Md_st (p2.2.2 rfl) rfl) hz.1 (by show (q.2 ++ [(2, 5)]).length ≤ q.1.2.1; rw [len_a]; omega) (Fr_st (FrQ8_t (FrQ8_t F0 (FrQ8_A p1.2)) p2.1) (by omega)) K)
        · rw [kb] at h23
          have ei : i = 6 := by rw [s3, kb]; rfl
          subst ei
          exact w_m3_45_1 hn ht h.1 hW hla s1 kb h23 (q := q) (by omega) c2 (fun I1 p1 I2 p2 => l_m3 hn ht hla H hro hno hF hx hd m (q.1, q.2 ++ [(2, 6)]) _ _ (by show 96 ≤ q.1.2.1 + m; have : (nxT t n p.1).2.1 ≤ q.1.2.1 := hz.2.1; omega) (Md_st (p2.2.2 rfl) rfl) hz.1 (by show (q.2 ++ [(2, 6)]).length ≤ q.1.2.1; rw [len_a]; omega) (Fr_st (FrQ8_t (FrQ8_t F0 (FrQ8_A p1.2)) p2.1) (by omega)) K)
theorem l_m4 {X : am_Z} {t : Nat → Nat} {n la key F ro no : Nat} (hn : n ≤ 96) (ht : ∀ j, j < n → t j < 256) (hla : la ≤ 2954) (H : SMl X t n la key F) (hro : ro ≤ 8) (hno : no ≤ 8) (hF : 20 * (8 - ro) + 3 * (8 - no) + (5 - (4 + 1)) + 1 ≤ F) {x : Int32} (hx : x = nI key) {g gs d Q} {I0 : Im} (hd : F + 6 ≤ d + 5) : ∀ (m : Nat) (p : Pa) (I : Im) (y2 : Option am_V) , 96 ≤ p.1.2.1 + m → Md I t n la key ro no p → Wt t n p.1 → p.2.length ≤ p.1.2.1 → FrQ8 la I0 I →
    (∀ I', PrM I0 t n la key ro no (lpL (pz t n key F (4 + 1) ro no) (nxT t n) (sgA t 4) (4 == 2) m p) I' → am_WP (am_psh g (some (.inl (vB (lpL (pz t n key F (4 + 1) ro no) (nxT t n) (sgA t 4) (4 == 2) m p).1))) :: gs) (d + 7) (mk I' X) Q) →
    am_WP ((mX8_term, 10, [some (.inr (.inr (some (8, 0)))), some (.inl x), y2], []) :: g :: gs) (d + 6) (mk I X) Q
  | 0, p, I, y2, hm, h, hW, hl, F0, K => by
    obtain ⟨w1, w2, w3, w4, w5, w6⟩ := id hW
    exact w_m4_e hn ht h.1 hW (fun z => by omega) (fun z => by omega) (K I (PrM_t h F0))
  | m + 1, p, I, y2, hm, h, hW, hl, F0, K => by
    obtain ⟨w1, w2, w3, w4, w5, w6⟩ := id hW
    have hw := nxT_W (t := t) (n := n) (tk := p.1) w2
    rcases es : sgA t 4 p.1 with _ | i
    · have eL : lpL (pz t n key F (4 + 1) ro no) (nxT t n) (sgA t 4) (4 == 2) (m + 1) p = (true, p) := by rw [lpL, es]
      rw [eL] at K
      exact w_m4_e hn ht h.1 hW (sgA_no es rfl) (sgA_no es rfl) (K I (PrM_t h F0))
    · obtain ⟨s1, s2, s3, s4⟩ := sgA_s es (by decide)
      have h1 := w4 (by omega)
      have c2 : ∀ I1 : Im, MdT I1 t n (nxT t n p.1) ∧ FrA8 I I1 → Sw mX8_part0 [.inr (.inr (some (8, 0))), .inl x] (d + 5) I1 X (some (.inl (vB (pz t n key F (4 + 1) ro no (nxT t n p.1, p.2)).1))) (PrM I1 t n la key ro no (pz t n key F (4 + 1) ro no (nxT t n p.1, p.2))) := fun I1 p1 => H (4 + 1) ro no (nxT t n p.1, p.2) I1 (d + 5) x (by omega) hro hno hx ⟨p1.1, MdS_A h.2 p1.2⟩ hw.1 (by show p.2.length ≤ (nxT t n p.1).2.1; omega) (by omega) (by omega)
      have hz := pz_ok (t := t) (n := n) (key := key) F (4 + 1) ro no (nxT t n p.1, p.2) hw.1
      have eM : ∀ r, pz t n key F (4 + 1) ro no (nxT t n p.1, p.2) = r → lpL (pz t n key F (4 + 1) ro no) (nxT t n) (sgA t 4) (4 == 2) (m + 1) p = (match r with | (false, q) => (false, q) | (true, q) => if (4 == 2) = true then (true, (q.1, q.2 ++ [(2, i)])) else lpL (pz t n key F (4 + 1) ro no) (nxT t n) (sgA t 4) (4 == 2) m (q.1, q.2 ++ [(2, i)])) := fun r hr => by
        rw [lpL, es]
        show (match pz t n key F (4 + 1) ro no (nxT t n p.1, p.2) with | (false, q) => (false, q) | (true, q) => if (4 == 2) = true then (true, (q.1, q.2 ++ [(2, i)])) else lpL (pz t n key F (4 + 1) ro no) (nxT t n) (sgA t 4) (4 == 2) m (q.1, q.2 ++ [(2, i)])) = _
        rw [hr]
      have h23 := h.1.2.2.2.2.2.2.1 s1
      rcases er : pz t n key F (4 + 1) ro no (nxT t n p.1, p.2) with ⟨_ | _, q⟩
      · rw [er] at c2
        rw [eM _ er] at K
        have K0 : ∀ I1 I2 : Im, FrA8 I I1 → PrM I1 t n la key ro no (false, q) I2 → am_WP (am_psh g (some (.inl 0)) :: gs) (d + 7) (mk I2 X) Q := fun I1 I2 a b => K I2 ⟨FrQ8_t (FrQ8_t F0 (FrQ8_A a)) b.1, b.2.1, fun z => by cases z⟩
        rcases sgl_4 (b := t p.1.2.1) (by rw [← s3]; exact s4) with kb | kb
        · rw [kb] at h23
          exact w_m4_42_0 hn ht h.1 hW hla s1 kb h23 (q := q) c2 (fun I1 p1 I2 p2 => K0 I1 I2 p1.2 p2)
        · rw [kb] at h23
          exact w_m4_47_0 hn ht h.1 hW hla s1 kb h23 (q := q) c2 (fun I1 p1 I2 p2 => K0 I1 I2 p1.2 p2)
      · rw [er] at c2 hz
        rw [eM _ er] at K
        have l1 : q.2.length + (nxT t n p.1).2.1 ≤ p.2.length + q.1.2.1 := (hz.2.2 rfl).1
        have q1 : q.1.2.1 ≤ q.1.2.2 := hz.1.1
        have q2 : q.1.2.2 ≤ n := hz.1.2.1
        rcases sgl_4 (b := t p.1.2.1) (by rw [← s3]; exact s4) with kb | kb
        · rw [kb] at h23
          have ei : i = 7 := by rw [s3, kb]; rfl
          subst ei
          exact w_m4_42_1 hn ht h.1 hW hla s1 kb h23 (q := q) (by omega) c2 (fun I1 p1 I2 p2 => l_m4 hn ht hla H hro hno hF hx hd m (q.1, q.2 ++ [(2, 7)]) _ _ (by show 96 ≤ q.1.2.1 + m; have : (nxT t n p.1).2.1 ≤ q.1.2.1 := hz.2.1; omega) (Md_st (p2.2.2 rfl) rfl) hz.1 (by show (q.2 ++ [(2, 7)]).length ≤ q.1.2.1; rw [len_a]; omega) (Fr_st (FrQ8_t (FrQ8_t F0 (FrQ8_A p1.2)) p2.1) (by omega)) K)
        · rw [kb] at h23
          have ei : i = 8 := by rw [s3, kb]; rfl
          subst ei
          exact w_m4_47_1 hn ht h.1 hW hla s1 kb h23 (q := q) (by omega) c2 (fun I1 p1 I2 p2 => l_m4 hn ht hla H hro hno hF hx hd m (q.1, q.2 ++ [(2, 8)]) _ _ (by show 96 ≤ q.1.2.1 + m; have : (nxT t n p.1).2.1 ≤ q.1.2.1 := hz.2.1; omega) (Md_st (p2.2.2 rfl) rfl) hz.1 (by show (q.2 ++ [(2, 8)]).length ≤ q.1.2.1; rw [len_a]; omega) (Fr_st (FrQ8_t (FrQ8_t F0 (FrQ8_A p1.2)) p2.1) (by omega)) K)
theorem st_p0 {X : am_Z} {t : Nat → Nat} {n la key F : Nat} (hn : n ≤ 96) (ht : ∀ j, j < n → t j < 256) (hla : la ≤ 2954) (hk : key < 3) (H : SMl X t n la key F) (ro no : Nat) (p : Pa) (I : Im) (D : Nat) (x : Int32) (hro : ro ≤ 8) (hno : no ≤ 8) (hx : x = nI key) (h : Md I t n la key ro no p) (hW : Wt t n p.1) (hl : p.2.length ≤ p.1.2.1) (hF : 20 * (8 - ro) + 3 * (8 - no) + 1 ≤ F + 1) (hD : F + 7 ≤ D) : Sw mX8_part0 [.inr (.inr (some (8, 0))), .inl x] D I X (some (.inl (vB (pz t n key (F + 1) 5 ro no p).1))) (PrM I t n la key ro no (pz t n key (F + 1) 5 ro no p)) := by
  obtain ⟨d, rfl⟩ : ∃ d, D = d + 5 := ⟨D - 5, by omega⟩
  obtain ⟨w1, w2, w3, w4, w5, w6⟩ := id hW
  have hw := nxT_W (t := t) (n := n) (tk := p.1) w2
  rw [pz, if_neg (by omega)]
  have bad : PrM I t n la key ro no (false, p) I := PrM_f h.1.2.2.1 FrQ8_r
  by_cases k2 : p.1.1 = 2
  · rw [if_pos k2]
    by_cases h5 : 4 < p.1.2.2 - p.1.2.1
    · rw [if_pos h5]
      have e4 : tkM p.1 = 4 := if_pos ⟨k2, h5⟩
      exact fun g gs Q K => w_p0_bad3 hn ht h.1 hW h.2 hla hx hk (by omega) (by omega) (fun z => by omega) (fun z => by omega) (K I bad)
    · rw [if_neg h5]
      have e2 : tkM p.1 = 2 := tkM_2.mpr ⟨k2, h5⟩
      have h1 := w4 (by omega)
      exact fun g gs Q K => w_p0_num hn ht h.1 hW h.2 hla hx hk (by omega) e2 k2 (h.1.2.2.2.2.2.2.2 k2 (by omega)) (fun I1 p1 => K I1 (PrM_t ⟨p1.1, MdS_A (MdS_2 (x := (0, numV t (p.1.2.2 - p.1.2.1) p.1.2.1 0)) h.2 (by show ¬ 0 = 2; decide) rfl rfl) p1.2⟩ (FrQ8_t (FrQ8_3 (Fr_st FrQ8_r (by omega)) (by decide)) (FrQ8_A p1.2))))
  · rw [if_neg k2]
    by_cases k1 : p.1.1 = 1
    · rw [if_pos k1]
      have e1 : tkM p.1 = 1 := tkM_1.mpr k1
      have h1 := w4 (by omega)
      have hf := fm_1 ((w6 (Or.inl k1) p.1.2.1 (Nat.le_refl _) h1).trans k1)
      have h23 := h.1.2.2.2.2.2.1 k1
      by_cases q1 : p.1.2.2 - p.1.2.1 = 1
      · rw [if_pos q1] at h23
        rcases nmI_c (key := key) (b := t p.1.2.1) hk with e | ⟨i, e, eb⟩
        · rw [show nmA t key p.1 = none from by unfold nmA; rw [if_pos q1]; exact e]
          exact fun g gs Q K => w_p0_bad2 hn ht h.1 hW h.2 hla hx hk e1 k1 h23 (by omega) (by omega) e (K I bad)
        · rw [show nmA t key p.1 = some i from by unfold nmA; rw [if_pos q1]; exact e]
          exact fun g gs Q K => w_p0_name hn ht h.1 hW h.2 hla hx hk (by omega) e1 k1 h23 (by omega) (by omega) e (fun I1 p1 => K I1 (PrM_t ⟨p1.1, MdS_A (MdS_2 (x := (1, i)) h.2 (by show ¬ 1 = 2; decide) rfl (by rw [eb])) p1.2⟩ (FrQ8_t (FrQ8_3 (Fr_st FrQ8_r (by omega)) (by decide)) (FrQ8_A p1.2))))
      · rw [if_neg q1] at h23
        rw [show nmA t key p.1 = none from by unfold nmA; rw [if_neg q1]]
        exact fun g gs Q K => w_p0_bad1 hn ht h.1 hW h.2 hla hx hk e1 k1 h23 (by omega) rfl (K I bad)
    · rw [if_neg k1]
      have n2 : ¬ tkM p.1 = 2 := fun z => k2 (tkM_2.mp z).1
      have n1 : ¬ tkM p.1 = 1 := fun z => k1 (tkM_1.mp z)
      by_cases c1 : p.1.1 = 3 ∧ t p.1.2.1 = 33
      · rw [if_pos c1]
        have h1 := w4 (by omega)
        by_cases h8 : 8 ≤ no
        · rw [if_pos h8]
          exact fun g gs Q K => w_p0_not_8 hn ht h.1 hW h.2 hla hx hk n2 n1 c1.1 c1.2 h8 hno (K I bad)
        · rw [if_neg h8]
          have c2 : ∀ I1 : Im, MdT I1 t n (nxT t n p.1) ∧ FrA8 (up3 I 8 0 25 (nI (no + 1))) I1 → Sw mX8_part0 [.inr (.inr (some (8, 0))), .inl x] (d + 4) I1 X (some (.inl (vB (pz t n key F 5 ro (no + 1) (nxT t n p.1, p.2)).1))) (PrM I1 t n la key ro (no + 1) (pz t n key F 5 ro (no + 1) (nxT t n p.1, p.2))) := fun I1 p1 => H 5 ro (no + 1) (nxT t n p.1, p.2) I1 (d + 4) x (by omega) hro (by omega) hx ⟨p1.1, MdS_A (MdS_no h.2) p1.2⟩ hw.1 (by show p.2.length ≤ (nxT t n p.1).2.1; omega) (by omega) (by omega)
          have hz := pz_ok (t := t) (n := n) (key := key) F 5 ro (no + 1) (nxT t n p.1, p.2) hw.1
          have fr : ∀ I1 I2 : Im, FrA8 (up3 I 8 0 25 (nI (no + 1))) I1 → FrQ8 la I1 I2 → FrQ8 la I I2 := fun I1 I2 a b => FrQ8_t (FrQ8_t (FrQ8_3 FrQ8_r (by decide)) (FrQ8_A a)) b
          rcases e : pz t n key F 5 ro (no + 1) (nxT t n p.1, p.2) with ⟨_ | _, q⟩
          · rw [e] at c2
            exact fun g gs Q K => w_p0_not_0 hn ht h.1 hW h.2 hla hx hk n2 n1 c1.1 c1.2 (by omega) (q := q) c2 (fun I1 p1 I2 p2 => K I2 ⟨fr I1 I2 p1.2 p2.1, p2.2.1, fun z => by cases z⟩)
          · rw [e] at c2 hz
            have l1 : q.2.length + (nxT t n p.1).2.1 ≤ p.2.length + q.1.2.1 := (hz.2.2 rfl).1
            have q1 : q.1.2.1 ≤ q.1.2.2 := hz.1.1
            have q2 : q.1.2.2 ≤ n := hz.1.2.1
            exact fun g gs Q K => w_p0_not_1 hn ht h.1 hW h.2 hla hx hk n2 n1 c1.1 c1.2 (by omega) (q := q) (by omega) c2 (fun I1 p1 I2 p2 => K _ (PrM_t (Md_st (q := q) (i := 9) ⟨MdT_u (p2.2.2 rfl).1 (by decide), MdS_no (p2.2.2 rfl).2⟩ rfl) (Fr_st (FrQ8_3 (fr I1 I2 p1.2 p2.1) (by decide)) (by omega))))
      · rw [if_neg c1]
        by_cases c3 : p.1.1 = 3 ∧ t p.1.2.1 = 40
        · rw [if_pos c3]
          have h1 := w4 (by omega)
          by_cases h8 : 8 ≤ ro
          · rw [if_pos h8]
            exact fun g gs Q K => w_p0_rnd_8 hn ht h.1 hW h.2 hla hx hk n2 n1 c3.1 c3.2 (by omega) (K I bad)
          · rw [if_neg h8]
            have c2 : ∀ I1 : Im, MdT I1 t n (nxT t n p.1) ∧ FrA8 (up3 I 8 0 24 (nI (ro + 1))) I1 → Sw mX8_either [.inr (.inr (some (8, 0))), .inl x] (d + 4) I1 X (some (.inl (vB (pz t n key F 0 (ro + 1) no (nxT t n p.1, p.2)).1))) (PrM I1 t n la key (ro + 1) no (pz t n key F 0 (ro + 1) no (nxT t n p.1, p.2))) := fun I1 p1 => H 0 (ro + 1) no (nxT t n p.1, p.2) I1 (d + 4) x (by omega) (by omega) hno hx ⟨p1.1, MdS_A (MdS_ro h.2) p1.2⟩ hw.1 (by show p.2.length ≤ (nxT t n p.1).2.1; omega) (by omega) (by omega)
            have hz := pz_ok (t := t) (n := n) (key := key) F 0 (ro + 1) no (nxT t n p.1, p.2) hw.1
            have fr : ∀ I1 I2 : Im, FrA8 (up3 I 8 0 24 (nI (ro + 1))) I1 → FrQ8 la I1 I2 → FrQ8 la I I2 := fun I1 I2 a b => FrQ8_t (FrQ8_t (FrQ8_3 FrQ8_r (by decide)) (FrQ8_A a)) b
            rcases e : pz t n key F 0 (ro + 1) no (nxT t n p.1, p.2) with ⟨_ | _, q⟩
            · rw [e] at c2 hz
              exact fun g gs Q K => w_p0_rnd_0 hn ht h.1 hW h.2 hla hx hk n2 n1 c3.1 c3.2 (by omega) (q := q) hz.1 c2 (fun I1 p1 I2 p2 => K I2 ⟨fr I1 I2 p1.2 p2.1, p2.2.1, fun z => by cases z⟩)
            · rw [e] at c2 hz
              show Sw mX8_part0 _ _ I X (some (.inl (vB (if q.1.1 = 3 ∧ t q.1.2.1 = 41 then (true, (nxT t n q.1, q.2)) else (false, q)).1))) (PrM I t n la key ro no (if q.1.1 = 3 ∧ t q.1.2.1 = 41 then (true, (nxT t n q.1, q.2)) else (false, q)))
              by_cases c4 : q.1.1 = 3 ∧ t q.1.2.1 = 41
              · rw [if_pos c4]
                exact fun g gs Q K => w_p0_rnd_1 hn ht h.1 hW h.2 hla hx hk n2 n1 c3.1 c3.2 (by omega) (q := q) hz.1 c2 (fun I1 p1 I2 p2 z => absurd c4 z) (fun I1 p1 I2 p2 _ I3 p3 => K I3 (PrM_t ⟨p3.1, MdS_A (MdS_ro (p2.2.2 rfl).2) p3.2⟩ (FrQ8_t (FrQ8_3 (fr I1 I2 p1.2 p2.1) (by decide)) (FrQ8_A p3.2))))
              · rw [if_neg c4]
                exact fun g gs Q K => w_p0_rnd_1 hn ht h.1 hW h.2 hla hx hk n2 n1 c3.1 c3.2 (by omega) (q := q) hz.1 c2 (fun I1 p1 I2 p2 _ => K I2 ⟨fr I1 I2 p1.2 p2.1, p2.2.1, fun z => by cases z⟩) (fun I1 p1 I2 p2 z => absurd z c4)
        · rw [if_neg c3]
          exact fun g gs Q K => w_p0_bad3 hn ht h.1 hW h.2 hla hx hk n2 n1 c1 c3 (K I bad)
theorem st_m {X : am_Z} {t : Nat → Nat} {n la key F : Nat} (hn : n ≤ 96) (ht : ∀ j, j < n → t j < 256) (hla : la ≤ 2954) (hk : key < 3) (H : SMl X t n la key F) : SMl X t n la key (F + 1) := by
  intro lv ro no p I D x hlv hro hno hx h hW hl hF hD
  by_cases h5 : lv = 5
  · subst h5
    exact st_p0 hn ht hla hk H ro no p I D x hro hno hx h hW hl (by omega) (by omega)
  obtain ⟨d, rfl⟩ : ∃ d, D = d + 6 := ⟨D - 6, by omega⟩
  rcases (show lv = 0 ∨ lv = 1 ∨ lv = 2 ∨ lv = 3 ∨ lv = 4 by omega) with rfl | rfl | rfl | rfl | rfl
  · have c : Sw mX8_both _ (d + 5) I X _ _ := H (0 + 1) ro no p I (d + 5) x (by omega) hro hno hx h hW hl (by omega) (by omega)
    rw [pz, if_pos (by decide)]
    have hz := pz_ok (t := t) (n := n) (key := key) F (0 + 1) ro no p hW
    rcases e : pz t n key F (0 + 1) ro no p with ⟨_ | _, q⟩
    · rw [e] at c
      exact fun g gs Q K => w_m0_a0 c K
    · rw [e] at c hz
      have l1 : q.2.length + p.1.2.1 ≤ p.2.length + q.1.2.1 := (hz.2.2 rfl).1
      exact fun g gs Q K => w_m0_a1 c (fun I1 p1 => l_m0 hn ht hla H hro hno (by omega) hx (I0 := I) (by omega) 96 q I1 (by omega) (p1.2.2 rfl) hz.1 (by omega) p1.1 K)
  · have c : Sw mX8_test _ (d + 5) I X _ _ := H (1 + 1) ro no p I (d + 5) x (by omega) hro hno hx h hW hl (by omega) (by omega)
    rw [pz, if_pos (by decide)]
    have hz := pz_ok (t := t) (n := n) (key := key) F (1 + 1) ro no p hW
    rcases e : pz t n key F (1 + 1) ro no p with ⟨_ | _, q⟩
    · rw [e] at c
      exact fun g gs Q K => w_m1_a0 c K
    · rw [e] at c hz
      have l1 : q.2.length + p.1.2.1 ≤ p.2.length + q.1.2.1 := (hz.2.2 rfl).1
      exact fun g gs Q K => w_m1_a1 c (fun I1 p1 => l_m1 hn ht hla H hro hno (by omega) hx (I0 := I) (by omega) 96 q I1 (by omega) (p1.2.2 rfl) hz.1 (by omega) p1.1 K)
  · have c : Sw mX8_sum _ (d + 5) I X _ _ := H (2 + 1) ro no p I (d + 5) x (by omega) hro hno hx h hW hl (by omega) (by omega)
    rw [pz, if_pos (by decide)]
    have hz := pz_ok (t := t) (n := n) (key := key) F (2 + 1) ro no p hW
    rcases e : pz t n key F (2 + 1) ro no p with ⟨_ | _, q⟩
    · rw [e] at c
      exact fun g gs Q K => w_m2_a0 c K
    · rw [e] at c hz
      have l1 : q.2.length + p.1.2.1 ≤ p.2.length + q.1.2.1 := (hz.2.2 rfl).1
      exact fun g gs Q K => w_m2_a1 c (fun I1 p1 => l_m2 hn ht hla H hro hno (by omega) hx (I0 := I) (by omega) 96 q I1 none (by omega) (p1.2.2 rfl) hz.1 (by omega) p1.1 K)
  · have c : Sw mX8_term _ (d + 5) I X _ _ := H (3 + 1) ro no p I (d + 5) x (by omega) hro hno hx h hW hl (by omega) (by omega)
    rw [pz, if_pos (by decide)]
    have hz := pz_ok (t := t) (n := n) (key := key) F (3 + 1) ro no p hW
    rcases e : pz t n key F (3 + 1) ro no p with ⟨_ | _, q⟩
    · rw [e] at c
      exact fun g gs Q K => w_m3_a0 c K
    · rw [e] at c hz
      have l1 : q.2.length + p.1.2.1 ≤ p.2.length + q.1.2.1 := (hz.2.2 rfl).1
      exact fun g gs Q K => w_m3_a1 c (fun I1 p1 => l_m3 hn ht hla H hro hno (by omega) hx (I0 := I) (by omega) 96 q I1 none (by omega) (p1.2.2 rfl) hz.1 (by omega) p1.1 K)
  · have c : Sw mX8_part0 _ (d + 5) I X _ _ := H (4 + 1) ro no p I (d + 5) x (by omega) hro hno hx h hW hl (by omega) (by omega)
    rw [pz, if_pos (by decide)]
    have hz := pz_ok (t := t) (n := n) (key := key) F (4 + 1) ro no p hW
    rcases e : pz t n key F (4 + 1) ro no p with ⟨_ | _, q⟩
    · rw [e] at c
      exact fun g gs Q K => w_m4_a0 c K
    · rw [e] at c hz
      have l1 : q.2.length + p.1.2.1 ≤ p.2.length + q.1.2.1 := (hz.2.2 rfl).1
      exact fun g gs Q K => w_m4_a1 c (fun I1 p1 => l_m4 hn ht hla H hro hno (by omega) hx (I0 := I) (by omega) 96 q I1 none (by omega) (p1.2.2 rfl) hz.1 (by omega) p1.1 K)
theorem SMl_all {X : am_Z} {t : Nat → Nat} {n la key : Nat} (hn : n ≤ 96) (ht : ∀ j, j < n → t j < 256) (hla : la ≤ 2954) (hk : key < 3) : ∀ F, SMl X t n la key F
  | 0 => fun lv ro no p I D x _ _ _ _ _ _ _ hF _ => absurd hF (by omega)
  | F + 1 => st_m hn ht hla hk (SMl_all hn ht hla hk F)
