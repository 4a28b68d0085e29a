/-! levels and pieces: the class parses as pz does -/
def SPc (X : am_Z) (t : Nat → Nat) (n key F : Nat) : Prop := ∀ (ro no : Nat) (p : Pa) (I : Im) (D : Nat), ro ≤ 8 → no ≤ 8 → Rd I t n key ro no p → Wt t n p.1 → p.2.length ≤ p.1.2.1 → 20 * (8 - ro) + 3 * (8 - no) + 1 ≤ F → 3 * F + 6 ≤ D → Sw mX3_takesPiece [.inr (.inr (some (3, 0)))] D I X (some (.inl (vB (pz t n key F 5 ro no p).1))) (PrC I t n key ro no (pz t n key F 5 ro no p))
def SLv (X : am_Z) (t : Nat → Nat) (n key F : Nat) : Prop := ∀ (lv ro no : Nat) (p : Pa) (I : Im) (D : Nat) (x : Int32), lv ≤ 5 → ro ≤ 8 → no ≤ 8 → x = nI lv → Rd I t n key ro no p → Wt t n p.1 → p.2.length ≤ p.1.2.1 → 20 * (8 - ro) + 3 * (8 - no) + (5 - lv) + 1 ≤ F → 3 * F + 7 ≤ D → Sw mX3_takesLevel [.inr (.inr (some (3, 0))), .inl x] D I X (some (.inl (vB (pz t n key F lv ro no p).1))) (PrC I t n key ro no (pz t n key F lv ro no p))
theorem RdS_no {I : Im} {key ro no no' l} (h : RdS I key ro no l) : RdS (up3 I 3 0 11 (nI no')) key ro no' l := by
  obtain ⟨a, b, c, e, f, g⟩ := h
  exact ⟨by rw [up3_j (by decide)]; exact a, by rw [up3_j (by decide)]; exact b, by rw [up3_j (by decide)]; exact c, e, by rw [up3_j (by decide)]; exact f, up3_s⟩
theorem RdS_ro {I : Im} {key ro ro' no l} (h : RdS I key ro no l) : RdS (up3 I 3 0 10 (nI ro')) key ro' no l := by
  obtain ⟨a, b, c, e, f, g⟩ := h
  exact ⟨by rw [up3_j (by decide)]; exact a, by rw [up3_j (by decide)]; exact b, by rw [up3_j (by decide)]; exact c, e, up3_s, by rw [up3_j (by decide)]; exact g⟩
theorem enC_s {i : Nat} : (-10 : Int32) - nI i = enC (2, i) := rfl
theorem enC_9 : (-19 : Int32) = enC (2, 9) := by decide
theorem st_pc {X : am_Z} {t : Nat → Nat} {n key F : Nat} (hn : n ≤ 96) (ht : ∀ j, j < n → t j < 256) (hk : key < 3) (H1 : SLv X t n key F) (H2 : SPc X t n key F) : SPc X t n key (F + 1) := by
  intro ro no p I D hro hno h hW hl hF hD
  obtain ⟨d, rfl⟩ : ∃ d, D = d + 5 := ⟨D - 5, by omega⟩
  obtain ⟨w1, w2, w3, w4, w5, w6⟩ := id hW
  have hx := nxT_W (t := t) (n := n) (tk := p.1) w2
  rw [pz, if_neg (by omega)]
  by_cases k2 : p.1.1 = 2
  · rw [if_pos k2]
    have c := c_X3_takesNumber (X := X) (d := d + 1) hn ht h hW (by have := w4 (by omega); omega) k2 _ rfl
    generalize (if 4 < p.1.2.2 - p.1.2.1 then (false, p) else (true, (nxT t n p.1, p.2 ++ [(0, numV t (p.1.2.2 - p.1.2.1) p.1.2.1 0)]))) = r at c ⊢
    rcases r with ⟨_ | _, q⟩
    · exact fun g gs Q K => w_pc_num_0 hn ht h.1 hW k2 c K
    · exact fun g gs Q K => w_pc_num_1 hn ht h.1 hW k2 c K
  · rw [if_neg k2]
    by_cases k1 : p.1.1 = 1
    · rw [if_pos k1]
      have c := c_X3_takesName (X := X) (d := d) hn ht hk h hW (by have := w4 (by omega); omega) _ rfl
      rcases e : nmA t key p.1 with _ | i
      · rw [e] at c
        exact fun g gs Q K => w_pc_name_0 hn ht h.1 hW k1 c K
      · rw [e] at c
        exact fun g gs Q K => w_pc_name_1 hn ht h.1 hW k1 c K
    · rw [if_neg k1]
      by_cases c1 : p.1.1 = 3 ∧ t p.1.2.1 = 33
      · rw [if_pos c1]
        have h1 := w4 (by omega)
        by_cases h8 : 8 ≤ no
        · rw [if_pos h8]
          have c : Sw mX3_takesNot [.inr (.inr (some (3, 0)))] (d + 4) I X (some (.inl 0)) (PrC I t n key ro no (false, p)) := fun g gs Q K => w_not_8 hn ht h.1 h.2 hW hno hro h8 (K I (PrC_f h.1.2.2.2.1 FrR_r))
          exact fun g gs Q K => w_pc_not_0 hn ht h.1 hW c1.1 c1.2 c K
        · rw [if_neg h8]
          have c2 : ∀ I1 : Im, RdT I1 t n (nxT t n p.1) ∧ FrA (up3 I 3 0 11 (nI (no + 1))) I1 → Sw mX3_takesPiece [.inr (.inr (some (3, 0)))] (d + 3) I1 X (some (.inl (vB (pz t n key F 5 ro (no + 1) (nxT t n p.1, p.2)).1))) (PrC I1 t n key ro (no + 1) (pz t n key F 5 ro (no + 1) (nxT t n p.1, p.2))) := fun I1 p1 => H2 ro (no + 1) (nxT t n p.1, p.2) I1 (d + 3) hro (by omega) ⟨p1.1, RdS_A (RdS_no h.2) p1.2⟩ hx.1 (by show p.2.length ≤ (nxT t n p.1).2.1; omega) (by omega) (by omega)
          have hz := pz_ok (t := t) (n := n) (key := key) F 5 ro (no + 1) (nxT t n p.1, p.2) hx.1
          have fr : ∀ I1 I2 : Im, FrA (up3 I 3 0 11 (nI (no + 1))) I1 → FrR I1 I2 → FrR I I2 := fun I1 I2 a b => FrR_t (FrR_t (FrR_3 FrR_r (Or.inl rfl)) (FrR_A a)) b
          rcases e : pz t n key F 5 ro (no + 1) (nxT t n p.1, p.2) with ⟨_ | _, q⟩
          · rw [e] at c2
            have c : Sw mX3_takesNot [.inr (.inr (some (3, 0)))] (d + 4) I X (some (.inl 0)) (PrC I t n key ro no (false, q)) := fun g gs Q K => w_not_0 hn ht h.1 h.2 hW hno hro (by omega) (q := q) c2 (fun I1 p1 I2 p2 => K I2 ⟨fr I1 I2 p1.2 p2.1, p2.2.1, fun z => by cases z⟩)
            exact fun g gs Q K => w_pc_not_0 hn ht h.1 hW c1.1 c1.2 c K
          · rw [e] at c2 hz
            have l1 : q.2.length + (nxT t n p.1).2.1 ≤ p.2.length + q.1.2.1 := (hz.2.2 rfl).1
            have q1 : q.1.2.1 ≤ q.1.2.2 := hz.1.1
            have q2 : q.1.2.2 ≤ n := hz.1.2.1
            have c : Sw mX3_takesNot [.inr (.inr (some (3, 0)))] (d + 4) I X (some (.inl 1)) (PrC I t n key ro no (true, (q.1, q.2 ++ [(2, 9)]))) := fun g gs Q K => w_not_1 hn ht h.1 h.2 hW hno hro (by omega) (q := q) (by omega) c2 (fun I1 p1 I2 p2 => K _ (PrC_t ⟨RdT_u (RdT_u (RdT_u (p2.2.2 rfl).1 (Or.inr ⟨rfl, by decide⟩)) (Or.inl rfl)) (Or.inr ⟨rfl, by decide⟩), RdS_1 (RdS_no (p2.2.2 rfl).2) rfl enC_9⟩ (FrR_3 (FrR_3 (FrR_3 (fr I1 I2 p1.2 p2.1) (Or.inl rfl)) (Or.inr rfl)) (Or.inl rfl))))
            exact fun g gs Q K => w_pc_not_1 hn ht h.1 hW c1.1 c1.2 c K
      · rw [if_neg c1]
        by_cases c3 : p.1.1 = 3 ∧ t p.1.2.1 = 40
        · rw [if_pos c3]
          have h1 := w4 (by omega)
          by_cases h8 : 8 ≤ ro
          · rw [if_pos h8]
            have c : Sw mX3_takesRound [.inr (.inr (some (3, 0)))] (d + 4) I X (some (.inl 0)) (PrC I t n key ro no (false, p)) := fun g gs Q K => w_rnd_8 hn ht h.1 h.2 hW hno hro h8 (K I (PrC_f h.1.2.2.2.1 FrR_r))
            exact fun g gs Q K => w_pc_rnd_0 hn ht h.1 hW c3.1 c3.2 c K
          · rw [if_neg h8]
            have c2 : ∀ I1 : Im, RdT I1 t n (nxT t n p.1) ∧ FrA (up3 I 3 0 10 (nI (ro + 1))) I1 → Sw mX3_takesLevel [.inr (.inr (some (3, 0))), .inl 0] (d + 3) I1 X (some (.inl (vB (pz t n key F 0 (ro + 1) no (nxT t n p.1, p.2)).1))) (PrC I1 t n key (ro + 1) no (pz t n key F 0 (ro + 1) no (nxT t n p.1, p.2))) := fun I1 p1 => H1 0 (ro + 1) no (nxT t n p.1, p.2) I1 (d + 3) 0 (by omega) (by omega) hno rfl ⟨p1.1, RdS_A (RdS_ro h.2) p1.2⟩ hx.1 (by show p.2.length ≤ (nxT t n p.1).2.1; omega) (by omega) (by omega)
            have hz := pz_ok (t := t) (n := n) (key := key) F 0 (ro + 1) no (nxT t n p.1, p.2) hx.1
            have fr : ∀ I1 I2 : Im, FrA (up3 I 3 0 10 (nI (ro + 1))) I1 → FrR I1 I2 → FrR I I2 := fun I1 I2 a b => FrR_t (FrR_t (FrR_3 FrR_r (Or.inl rfl)) (FrR_A a)) b
            rcases e : pz t n key F 0 (ro + 1) no (nxT t n p.1, p.2) with ⟨_ | _, q⟩
            · rw [e] at c2 hz
              have c : Sw mX3_takesRound [.inr (.inr (some (3, 0)))] (d + 4) I X (some (.inl 0)) (PrC I t n key ro no (false, q)) := fun g gs Q K => w_rnd_0 hn ht h.1 h.2 hW hno hro (by omega) (q := q) hz.1 c2 (fun I1 p1 I2 p2 => K I2 ⟨fr I1 I2 p1.2 p2.1, p2.2.1, fun z => by cases z⟩)
              exact fun g gs Q K => w_pc_rnd_0 hn ht h.1 hW c3.1 c3.2 c K
            · rw [e] at c2 hz
              show Sw mX3_takesPiece _ _ I X (some (.inl (vB (if q.1.1 = 3 ∧ t q.1.2.1 = 41 then (true, (nxT t n q.1, q.2)) else (false, q)).1))) (PrC I t n key ro no (if q.1.1 = 3 ∧ t q.1.2.1 = 41 then (true, (nxT t n q.1, q.2)) else (false, q)))
              by_cases c4 : q.1.1 = 3 ∧ t q.1.2.1 = 41
              · rw [if_pos c4]
                have c : Sw mX3_takesRound [.inr (.inr (some (3, 0)))] (d + 4) I X (some (.inl 1)) (PrC I t n key ro no (true, (nxT t n q.1, q.2))) := fun g gs Q K => w_rnd_1 hn ht h.1 h.2 hW hno hro (by omega) (q := q) hz.1 c2 (fun I1 p1 I2 p2 z => absurd c4 z) (fun I1 p1 I2 p2 _ I3 p3 => K I3 (PrC_t ⟨p3.1, RdS_A (RdS_ro (p2.2.2 rfl).2) p3.2⟩ (FrR_t (FrR_3 (fr I1 I2 p1.2 p2.1) (Or.inl rfl)) (FrR_A p3.2))))
                exact fun g gs Q K => w_pc_rnd_1 hn ht h.1 hW c3.1 c3.2 c K
              · rw [if_neg c4]
                have c : Sw mX3_takesRound [.inr (.inr (some (3, 0)))] (d + 4) I X (some (.inl 0)) (PrC I t n key ro no (false, q)) := fun g gs Q K => w_rnd_1 hn ht h.1 h.2 hW hno hro (by omega) (q := q) hz.1 c2 (fun I1 p1 I2 p2 _ => K I2 ⟨fr I1 I2 p1.2 p2.1, p2.2.1, fun z => by cases z⟩) (fun I1 p1 I2 p2 z => absurd z c4)
                exact fun g gs Q K => w_pc_rnd_0 hn ht h.1 hW c3.1 c3.2 c K
        · rw [if_neg c3]
          exact fun g gs Q K => w_pc_bad (P := fun _ => True) hn ht h.1 hW k2 k1 c1 c3 (K I (PrC_f h.1.2.2.2.1 FrR_r))
theorem l_lvC {X : am_Z} {t : Nat → Nat} {n key F lv ro no : Nat} (hn : n ≤ 96) (ht : ∀ j, j < n → t j < 256) (hlv : lv ≤ 4) (H1 : SLv X t n key F) (hro : ro ≤ 8) (hno : no ≤ 8) (hF : 20 * (8 - ro) + 3 * (8 - no) + (5 - (lv + 1)) + 1 ≤ F) {x : Int32} (hx : x = nI lv) {g gs d Q} {I0 : Im} (hd : 3 * F + 7 ≤ d + 5) : ∀ (m k : Nat) (p : Pa) (I : Im), k + m = 96 → Rd I t n key ro no p → Wt t n p.1 → p.2.length ≤ p.1.2.1 → FrR I0 I →
    (∀ I', PrC I0 t n key ro no (lpL (pz t n key F (lv + 1) ro no) (nxT t n) (sgA t lv) (lv == 2) m p) I' → am_WP (am_psh g (some (.inl (vB (lpL (pz t n key F (lv + 1) ro no) (nxT t n) (sgA t lv) (lv == 2) m p).1))) :: gs) (d + 7) (mk I' X) Q) →
    am_WP ((mX3_takesLevel, 30, [some (.inr (.inr (some (3, 0)))), some (.inl x), some (.inl (sgV (sgA t lv p.1))), some (.inl (nI k))], []) :: g :: gs) (d + 6) (mk I X) Q
  | 0, k, p, I, hk, h, hW, hl, F0, K => by
    have K0 := K I (PrC_t h F0)
    rcases es : sgA t lv p.1 with _ | i
    · exact w_lve (by omega) (fun _ => K0) (fun _ => K0)
    · exact w_lve9 (by omega) (by omega) K0
  | m + 1, k, p, I, hk, h, hW, hl, F0, K => by
    obtain ⟨w1, w2, w3, w4, w5, w6⟩ := id hW
    have hw := nxT_W (t := t) (n := n) (tk := p.1) w2
    rcases es : sgA t lv p.1 with _ | i
    · have eL : lpL (pz t n key F (lv + 1) ro no) (nxT t n) (sgA t lv) (lv == 2) (m + 1) p = (true, p) := by rw [lpL, es]
      rw [eL] at K
      have K0 := K I (PrC_t h F0)
      exact w_lve (by omega) (fun _ => K0) (fun _ => K0)
    · obtain ⟨s1, s2, _, _⟩ := sgA_s es hlv
      have h1 := w4 (by omega)
      have c2 : ∀ I1 : Im, RdT I1 t n (nxT t n p.1) ∧ FrA I I1 → Sw mX3_takesLevel [.inr (.inr (some (3, 0))), .inl (x + 1)] (d + 5) I1 X (some (.inl (vB (pz t n key F (lv + 1) ro no (nxT t n p.1, p.2)).1))) (PrC I1 t n key ro no (pz t n key F (lv + 1) ro no (nxT t n p.1, p.2))) := fun I1 p1 => H1 (lv + 1) ro no (nxT t n p.1, p.2) I1 (d + 5) (x + 1) (by omega) hro hno (nI_addE hx (rfl : (1 : Int32) = nI 1)) ⟨p1.1, RdS_A h.2 p1.2⟩ hw.1 (by show p.2.length ≤ (nxT t n p.1).2.1; omega) (by omega) (by omega)
      have hz := pz_ok (t := t) (n := n) (key := key) F (lv + 1) ro no (nxT t n p.1, p.2) hw.1
      rcases er : pz t n key F (lv + 1) ro no (nxT t n p.1, p.2) with ⟨_ | _, q⟩
      · rw [er] at c2 hz
        have eL : lpL (pz t n key F (lv + 1) ro no) (nxT t n) (sgA t lv) (lv == 2) (m + 1) p = (false, q) := by rw [lpL, es]; show (match pz t n key F (lv + 1) ro no (nxT t n p.1, p.2) with | (false, q) => (false, q) | (true, q) => _) = _; rw [er]
        rw [eL] at K
        exact w_lvl_0 hn ht h.1 hW hx hlv s2 (by omega) (q := q) c2 (fun I1 p1 I2 p2 => K I2 ⟨FrR_t (FrR_t F0 (FrR_A p1.2)) p2.1, p2.2.1, fun z => by cases z⟩)
      · rw [er] at c2 hz
        have l1 : q.2.length + (nxT t n p.1).2.1 ≤ p.2.length + q.1.2.1 := (hz.2.2 rfl).1
        have q1 : q.1.2.1 ≤ q.1.2.2 := hz.1.1
        have q2 : q.1.2.2 ≤ n := hz.1.2.1
        refine w_lvl_1 hn ht h.1 hW hx hlv s2 (by omega) (q := q) (by omega) c2 (fun I1 p1 I2 p2 => ?_)
        have hJ : Rd (up3 (up3 I2 24 0 q.2.length (-10 - nI i)) 3 0 6 (nI (q.2.length + 1))) t n key ro no (q.1, q.2 ++ [(2, i)]) := ⟨RdT_u (RdT_u (p2.2.2 rfl).1 (Or.inl rfl)) (Or.inr ⟨rfl, by decide⟩), RdS_1 (p2.2.2 rfl).2 rfl enC_s⟩
        have FJ : FrR I0 (up3 (up3 I2 24 0 q.2.length (-10 - nI i)) 3 0 6 (nI (q.2.length + 1))) := FrR_3 (FrR_3 (FrR_t (FrR_t F0 (FrR_A p1.2)) p2.1) (Or.inr rfl)) (Or.inl rfl)
        generalize up3 (up3 I2 24 0 q.2.length (-10 - nI i)) 3 0 6 (nI (q.2.length + 1)) = J at hJ FJ
        have eM : lpL (pz t n key F (lv + 1) ro no) (nxT t n) (sgA t lv) (lv == 2) (m + 1) p = if (lv == 2) = true then (true, (q.1, q.2 ++ [(2, i)])) else lpL (pz t n key F (lv + 1) ro no) (nxT t n) (sgA t lv) (lv == 2) m (q.1, q.2 ++ [(2, i)]) := by
          rw [lpL, es]
          show (match pz t n key F (lv + 1) ro no (nxT t n p.1, p.2) with | (false, q) => (false, q) | (true, q) => if (lv == 2) = true then (true, (q.1, q.2 ++ [(2, i)])) else lpL (pz t n key F (lv + 1) ro no) (nxT t n) (sgA t lv) (lv == 2) m (q.1, q.2 ++ [(2, i)])) = _
          rw [er]
        by_cases h2 : lv = 2
        · rw [eM, if_pos (by simp [h2])] at K
          have K0 := K J (PrC_t hJ FJ)
          exact w_lvc_2 hx h2 (by omega) (w_lve (by omega) (fun _ => K0) (fun _ => K0))
        · rw [eM, if_neg (by simp [h2])] at K
          have r := l_lvC hn ht hlv H1 hro hno hF hx hd m (k + 1) (q.1, q.2 ++ [(2, i)]) J (by omega) hJ hz.1 (by show (q.2 ++ [(2, i)]).length ≤ q.1.2.1; rw [len_a]; omega) FJ K
          rcases es2 : sgA t lv q.1 with _ | i2
          · rw [show sgA t lv (q.1, q.2 ++ [(2, i)]).1 = none from es2] at r
            exact w_lvc_0 hn ht hJ.1 hz.1 hx hlv es2 h2 (by omega) r
          · rw [show sgA t lv (q.1, q.2 ++ [(2, i)]).1 = some i2 from es2] at r
            exact w_lvc_1 hn ht hJ.1 hz.1 hx hlv es2 h2 (by omega) r
theorem st_lv {X : am_Z} {t : Nat → Nat} {n key F : Nat} (hn : n ≤ 96) (ht : ∀ j, j < n → t j < 256) (H1 : SLv X t n key F) (H2 : SPc X t n key (F + 1)) : SLv X t n key (F + 1) := by
  intro lv ro no p I D x hlv hro hno hx h hW hl hF hD
  obtain ⟨d, rfl⟩ : ∃ d, D = d + 6 := ⟨D - 6, by omega⟩
  by_cases h5 : lv = 5
  · subst h5
    have c := H2 ro no p I (d + 5) hro hno h hW hl (by omega) (by omega)
    generalize pz t n key (F + 1) 5 ro no p = r at c ⊢
    rcases r with ⟨_ | _, q⟩
    · exact fun g gs Q K => w_lv5_0 hx (by omega) (by omega) c K
    · exact fun g gs Q K => w_lv5_1 hx (by omega) (by omega) c K
  · rw [pz, if_pos (show lv ≤ 4 by omega)]
    have c := H1 (lv + 1) ro no p I (d + 5) (x + 1) (by omega) hro hno (nI_addE hx (rfl : (1 : Int32) = nI 1)) h hW hl (by omega) (by omega)
    have hz := pz_ok (t := t) (n := n) (key := key) F (lv + 1) ro no p hW
    rcases e : pz t n key F (lv + 1) ro no p with ⟨_ | _, q⟩
    · rw [e] at c
      exact fun g gs Q K => w_lva_0 hx hlv (by omega) c K
    · rw [e] at c hz
      have l1 : q.2.length + p.1.2.1 ≤ p.2.length + q.1.2.1 := (hz.2.2 rfl).1
      refine fun g gs Q K => w_lva_1 hx hlv (by omega) c (fun I1 p1 => ?_)
      have r := l_lvC (lv := lv) hn ht (by omega) H1 hro hno (by omega) hx (g := g) (gs := gs) (d := d) (Q := Q) (I0 := I) (by omega) 96 0 q I1 rfl (p1.2.2 rfl) hz.1 (by omega) p1.1 K
      rcases es : sgA t lv q.1 with _ | i
      · rw [es] at r
        exact w_lvb_0 hn ht (p1.2.2 rfl).1 hz.1 hx (by omega) es r
      · rw [es] at r
        exact w_lvb_1 hn ht (p1.2.2 rfl).1 hz.1 hx (by omega) es r
theorem SLv_all {X : am_Z} {t : Nat → Nat} {n key : Nat} (hn : n ≤ 96) (ht : ∀ j, j < n → t j < 256) (hk : key < 3) : ∀ F, SLv X t n key F ∧ SPc X t n key F
  | 0 => ⟨fun lv ro no p I D x _ _ _ _ _ _ _ hF _ => absurd hF (by omega), fun ro no p I D _ _ _ _ _ hF _ => absurd hF (by omega)⟩
  | F + 1 => by
    obtain ⟨a, b⟩ := SLv_all hn ht hk F
    have c := st_pc hn ht hk a b
    exact ⟨st_lv hn ht a c, c⟩
