/-! what a parse comes to -/
def gdE (key : Nat) (x : Nat × Nat) : Prop := (x.1 = 0 → x.2 ≤ 9999) ∧ (x.1 = 1 → x.2 < (if key = 0 then 3 else 2))
def gd (key : Nat) (l : List (Nat × Nat)) : Prop := (∀ k rest, wfS (k + 1) rest → wfS k (l ++ rest)) ∧ ∀ x, x ∈ l → gdE key x
def gl (key : Nat) (l : List (Nat × Nat)) : Prop := (∀ k rest, wfS (k + 1) rest → wfS (k + 1) (l ++ rest)) ∧ ∀ x, x ∈ l → gdE key x
theorem wf_s {k i : Nat} {rest : List (Nat × Nat)} (hi : i < 9) (h : wfS (k + 1) rest) : wfS (k + 2) ((2, i) :: rest) := by
  unfold wfS
  rw [if_pos rfl, if_neg (show ¬ i = 9 by omega)]
  exact ⟨hi, by omega, h⟩
theorem wf_n {k : Nat} {rest : List (Nat × Nat)} (h : wfS (k + 1) rest) : wfS (k + 1) ((2, 9) :: rest) := by
  unfold wfS
  rw [if_pos rfl, if_pos rfl]
  exact ⟨by omega, h⟩
theorem wf_o {k a v : Nat} {rest : List (Nat × Nat)} (ha : a < 2) (h : wfS (k + 1) rest) : wfS k ((a, v) :: rest) := by
  unfold wfS
  rw [if_neg (show ¬ a = 2 by omega)]
  exact ⟨ha, h⟩
theorem gd_gl {key : Nat} {a b : List (Nat × Nat)} (ha : gd key a) (hb : gl key b) : gd key (a ++ b) := by
  refine ⟨fun k rest h => ?_, fun x hx => ?_⟩
  · rw [List.append_assoc]; exact ha.1 k _ (hb.1 k rest h)
  · rcases List.mem_append.mp hx with q | q
    · exact ha.2 x q
    · exact hb.2 x q
theorem gl_0 {key : Nat} : gl key [] := ⟨fun _ _ h => h, fun _ h => by cases h⟩
theorem gl_i {key i : Nat} {a b : List (Nat × Nat)} (hi : i < 9) (ha : gd key a) (hb : gl key b) : gl key (a ++ [(2, i)] ++ b) := by
  refine ⟨fun k rest h => ?_, fun x hx => ?_⟩
  · rw [List.append_assoc, List.append_assoc]
    exact ha.1 (k + 1) _ (wf_s hi (hb.1 k rest h))
  · rcases List.mem_append.mp hx with q | q
    · rcases List.mem_append.mp q with q | q
      · exact ha.2 x q
      · rw [List.mem_singleton.mp q]
        exact ⟨(fun z => by cases z), (fun z => by cases z)⟩
    · exact hb.2 x q
theorem gd_n {key : Nat} {a : List (Nat × Nat)} (ha : gd key a) : gd key (a ++ [(2, 9)]) := by
  refine ⟨fun k rest h => ?_, fun x hx => ?_⟩
  · rw [List.append_assoc]; exact ha.1 k _ (wf_n h)
  · rcases List.mem_append.mp hx with q | q
    · exact ha.2 x q
    · rw [List.mem_singleton.mp q]
      exact ⟨(fun z => by cases z), (fun z => by cases z)⟩
theorem gd_o {key a v : Nat} (ha : a < 2) (h : gdE key (a, v)) : gd key [(a, v)] := ⟨fun k rest q => wf_o ha q, fun x hx => by rw [List.mem_singleton.mp hx]; exact h⟩
def PzR (t : Nat → Nat) (n key : Nat) (p : Pa) (r : Bool × Pa) : Prop := Wt t n r.2.1 ∧ p.1.2.1 ≤ r.2.1.2.1 ∧ (r.1 = true → r.2.2.length + p.1.2.1 ≤ p.2.length + r.2.1.2.1 ∧ ∃ l, r.2.2 = p.2 ++ l ∧ gd key l)
def PzL (t : Nat → Nat) (n key : Nat) (p : Pa) (r : Bool × Pa) : Prop := Wt t n r.2.1 ∧ p.1.2.1 ≤ r.2.1.2.1 ∧ (r.1 = true → r.2.2.length + p.1.2.1 ≤ p.2.length + r.2.1.2.1 ∧ ∃ l, r.2.2 = p.2 ++ l ∧ gl key l)
theorem sgA_s {t : Nat → Nat} {lv i : Nat} {tk : Tk} (h : sgA t lv tk = some i) (hl : lv ≤ 4) : tk.1 = 3 ∧ i < 9 ∧ i = sgI (t tk.2.1) ∧ lvI i = lv := by
  unfold sgA at h
  split at h
  · rename_i q
    have e : sgI (t tk.2.1) = i := Option.some.inj h
    rw [e] at q
    refine ⟨q.1, ?_, e.symm, q.2⟩
    have q2 := q.2
    unfold lvI at q2
    split at q2
    · omega
    · split at q2
      · omega
      · split at q2
        · omega
        · split at q2
          · omega
          · split at q2
            · omega
            · omega
  · cases h
theorem lpL_ok {t : Nat → Nat} {n key lv : Nat} {rc : Pa → Bool × Pa} {once : Bool} (hl : lv ≤ 4) (hrc : ∀ p : Pa, Wt t n p.1 → PzR t n key p (rc p)) : ∀ (m : Nat) (p : Pa), Wt t n p.1 → PzL t n key p (lpL rc (nxT t n) (sgA t lv) once m p)
  | 0, p, hW => ⟨hW, Nat.le_refl _, fun _ => ⟨Nat.le_refl _, [], (List.append_nil _).symm, gl_0⟩⟩
  | m + 1, p, hW => by
    rw [lpL]
    rcases es : sgA t lv p.1 with _ | i
    · exact ⟨hW, Nat.le_refl _, fun _ => ⟨Nat.le_refl _, [], (List.append_nil _).symm, gl_0⟩⟩
    · obtain ⟨s1, s2, _, _⟩ := sgA_s es hl
      have hx := nxT_W (t := t) (n := n) (tk := p.1) hW.2.1
      have h1 := hW.2.2.2.1 (by omega)
      have hr := hrc (nxT t n p.1, p.2) hx.1
      rcases er : rc (nxT t n p.1, p.2) with ⟨_ | _, q⟩
      · rw [er] at hr
        have h2 : (nxT t n p.1).2.1 ≤ q.1.2.1 := hr.2.1
        exact ⟨hr.1, by show p.1.2.1 ≤ q.1.2.1; omega, fun z => by cases z⟩
      · rw [er] at hr
        have h2 : (nxT t n p.1).2.1 ≤ q.1.2.1 := hr.2.1
        obtain ⟨l1, l, l2, l3⟩ := hr.2.2 rfl
        have l1 : q.2.length + (nxT t n p.1).2.1 ≤ p.2.length + q.1.2.1 := l1
        have l2 : q.2 = p.2 ++ l := l2
        have ln : (q.2 ++ [(2, i)]).length = q.2.length + 1 := by rw [List.length_append]; rfl
        show PzL t n key p (if once = true then (true, (q.1, q.2 ++ [(2, i)])) else lpL rc (nxT t n) (sgA t lv) once m (q.1, q.2 ++ [(2, i)]))
        by_cases ho : once = true
        · rw [if_pos ho]
          refine ⟨hr.1, by show p.1.2.1 ≤ q.1.2.1; omega, fun _ => ⟨?_, l ++ [(2, i)] ++ [], ?_, gl_i s2 l3 gl_0⟩⟩
          · show (q.2 ++ [(2, i)]).length + p.1.2.1 ≤ p.2.length + q.1.2.1
            omega
          · show q.2 ++ [(2, i)] = _
            rw [l2, List.append_nil, List.append_assoc]
        · rw [if_neg ho]
          have ih := lpL_ok (once := once) hl hrc m (q.1, q.2 ++ [(2, i)]) hr.1
          generalize lpL rc (nxT t n) (sgA t lv) once m (q.1, q.2 ++ [(2, i)]) = r at ih
          have ih2 : q.1.2.1 ≤ r.2.1.2.1 := ih.2.1
          refine ⟨ih.1, by omega, fun z => ?_⟩
          obtain ⟨m1, l', m2, m3⟩ := ih.2.2 z
          have m1 : r.2.2.length + q.1.2.1 ≤ (q.2 ++ [(2, i)]).length + r.2.1.2.1 := m1
          have m2 : r.2.2 = q.2 ++ [(2, i)] ++ l' := m2
          refine ⟨by omega, l ++ [(2, i)] ++ l', ?_, gl_i s2 l3 m3⟩
          rw [m2, l2, List.append_assoc, List.append_assoc, List.append_assoc]
theorem nmA_b {t : Nat → Nat} {key i : Nat} {tk : Tk} (h : nmA t key tk = some i) : i < (if key = 0 then 3 else 2) := by
  unfold nmA at h
  split at h
  · unfold nmI at h
    split at h
    · rename_i e
      rw [if_pos e]
      split at h
      · cases h; omega
      · split at h
        · cases h; omega
        · split at h
          · cases h; omega
          · cases h
    · rename_i e
      rw [if_neg e]
      split at h
      · split at h
        · cases h; omega
        · split at h
          · cases h; omega
          · cases h
      · split at h
        · cases h; omega
        · split at h
          · cases h; omega
          · cases h
  · cases h
theorem pz_ok {t : Nat → Nat} {n key : Nat} : ∀ (F lv ro no : Nat) (p : Pa), Wt t n p.1 → PzR t n key p (pz t n key F lv ro no p)
  | 0, _, _, _, p, hW => ⟨hW, Nat.le_refl _, fun z => by cases z⟩
  | F + 1, lv, ro, no, p, hW => by
    have bad : PzR t n key p (false, p) := ⟨hW, Nat.le_refl _, fun z => by cases z⟩
    have hx := nxT_W (t := t) (n := n) (tk := p.1) hW.2.1
    rw [pz]
    by_cases h4 : lv ≤ 4
    · rw [if_pos h4]
      have ih := pz_ok (t := t) (n := n) (key := key) F (lv + 1) ro no p hW
      rcases e : pz t n key F (lv + 1) ro no p with ⟨_ | _, q⟩
      · rw [e] at ih
        exact ⟨ih.1, ih.2.1, fun z => by cases z⟩
      · rw [e] at ih
        obtain ⟨l1, l, l2, l3⟩ := ih.2.2 rfl
        have l1 : q.2.length + p.1.2.1 ≤ p.2.length + q.1.2.1 := l1
        have l2 : q.2 = p.2 ++ l := l2
        have i2 : p.1.2.1 ≤ q.1.2.1 := ih.2.1
        have lo := lpL_ok (t := t) (n := n) (key := key) (rc := pz t n key F (lv + 1) ro no) (once := lv == 2) h4 (fun p' h' => pz_ok F (lv + 1) ro no p' h') 96 q ih.1
        show PzR t n key p (lpL (pz t n key F (lv + 1) ro no) (nxT t n) (sgA t lv) (lv == 2) 96 q)
        generalize lpL (pz t n key F (lv + 1) ro no) (nxT t n) (sgA t lv) (lv == 2) 96 q = r at lo
        have o2 : q.1.2.1 ≤ r.2.1.2.1 := lo.2.1
        refine ⟨lo.1, by omega, fun z => ?_⟩
        obtain ⟨m1, l', m2, m3⟩ := lo.2.2 z
        refine ⟨by omega, l ++ l', ?_, gd_gl l3 m3⟩
        rw [m2, l2, List.append_assoc]
    · rw [if_neg h4]
      have one : ∀ x : Nat × Nat, gd key [x] → ¬ p.1.1 = 0 → PzR t n key p (true, (nxT t n p.1, p.2 ++ [x])) := fun x hg h0 => by
        have h1 := hW.2.2.2.1 h0
        refine ⟨hx.1, by show p.1.2.1 ≤ (nxT t n p.1).2.1; omega, fun _ => ⟨?_, [x], rfl, hg⟩⟩
        show (p.2 ++ [x]).length + p.1.2.1 ≤ p.2.length + (nxT t n p.1).2.1
        rw [List.length_append]
        show p.2.length + 1 + _ ≤ _
        omega
      by_cases k2 : p.1.1 = 2
      · rw [if_pos k2]
        by_cases h5 : 4 < p.1.2.2 - p.1.2.1
        · rw [if_pos h5]; exact bad
        · rw [if_neg h5]
          refine one _ (gd_o (by omega) ⟨fun _ => ?_, fun z => by cases z⟩) (by omega)
          have hw1 := hW.1
          have hd : ∀ j, p.1.2.1 ≤ j → j < p.1.2.1 + (p.1.2.2 - p.1.2.1) → fm (t j) = 2 := fun j a b => (hW.2.2.2.2.2 (Or.inr k2) j a (by omega)).trans k2
          have := numV_b (t := t) (p.1.2.2 - p.1.2.1) p.1.2.1 0 1 hd (by omega)
          show numV t (p.1.2.2 - p.1.2.1) p.1.2.1 0 ≤ 9999
          have hp : 10 ^ (p.1.2.2 - p.1.2.1) ≤ 10 ^ 4 := Nat.pow_le_pow_right (by omega) (by omega)
          omega
      · rw [if_neg k2]
        by_cases k1 : p.1.1 = 1
        · rw [if_pos k1]
          rcases e : nmA t key p.1 with _ | i
          · exact bad
          · exact one _ (gd_o (by omega) ⟨(fun z => by cases z), fun _ => nmA_b e⟩) (by omega)
        · rw [if_neg k1]
          by_cases c1 : p.1.1 = 3 ∧ t p.1.2.1 = 33
          · rw [if_pos c1]
            have h1 := hW.2.2.2.1 (by omega)
            by_cases h8 : 8 ≤ no
            · rw [if_pos h8]; exact bad
            · rw [if_neg h8]
              have ih := pz_ok (t := t) (n := n) (key := key) F 5 ro (no + 1) (nxT t n p.1, p.2) hx.1
              rcases e : pz t n key F 5 ro (no + 1) (nxT t n p.1, p.2) with ⟨_ | _, q⟩
              · rw [e] at ih
                have i2 : (nxT t n p.1).2.1 ≤ q.1.2.1 := ih.2.1
                exact ⟨ih.1, by show p.1.2.1 ≤ q.1.2.1; omega, fun z => by cases z⟩
              · rw [e] at ih
                have i2 : (nxT t n p.1).2.1 ≤ q.1.2.1 := ih.2.1
                obtain ⟨l1, l, l2, l3⟩ := ih.2.2 rfl
                have l1 : q.2.length + (nxT t n p.1).2.1 ≤ p.2.length + q.1.2.1 := l1
                have l2 : q.2 = p.2 ++ l := l2
                refine ⟨ih.1, by show p.1.2.1 ≤ q.1.2.1; omega, fun _ => ⟨?_, l ++ [(2, 9)], ?_, gd_n l3⟩⟩
                · show (q.2 ++ [(2, 9)]).length + p.1.2.1 ≤ p.2.length + q.1.2.1
                  rw [List.length_append]
                  show q.2.length + 1 + _ ≤ _
                  omega
                · show q.2 ++ [(2, 9)] = _
                  rw [l2, List.append_assoc]
          · rw [if_neg c1]
            by_cases c2 : p.1.1 = 3 ∧ t p.1.2.1 = 40
            · rw [if_pos c2]
              have h1 := hW.2.2.2.1 (by omega)
              by_cases h8 : 8 ≤ ro
              · rw [if_pos h8]; exact bad
              · rw [if_neg h8]
                have ih := pz_ok (t := t) (n := n) (key := key) F 0 (ro + 1) no (nxT t n p.1, p.2) hx.1
                rcases e : pz t n key F 0 (ro + 1) no (nxT t n p.1, p.2) with ⟨_ | _, q⟩
                · rw [e] at ih
                  have i2 : (nxT t n p.1).2.1 ≤ q.1.2.1 := ih.2.1
                  exact ⟨ih.1, by show p.1.2.1 ≤ q.1.2.1; omega, fun z => by cases z⟩
                · rw [e] at ih
                  have i2 : (nxT t n p.1).2.1 ≤ q.1.2.1 := ih.2.1
                  obtain ⟨l1, l, l2, l3⟩ := ih.2.2 rfl
                  have l1 : q.2.length + (nxT t n p.1).2.1 ≤ p.2.length + q.1.2.1 := l1
                  have l2 : q.2 = p.2 ++ l := l2
                  show PzR t n key p (if q.1.1 = 3 ∧ t q.1.2.1 = 41 then (true, (nxT t n q.1, q.2)) else (false, q))
                  by_cases c3 : q.1.1 = 3 ∧ t q.1.2.1 = 41
                  · rw [if_pos c3]
                    have hy := nxT_W (t := t) (n := n) (tk := q.1) ih.1.2.1
                    have hq1 : q.1.2.1 ≤ q.1.2.2 := ih.1.1
                    refine ⟨hy.1, by show p.1.2.1 ≤ (nxT t n q.1).2.1; omega, fun _ => ⟨?_, l, l2, l3⟩⟩
                    show q.2.length + p.1.2.1 ≤ p.2.length + (nxT t n q.1).2.1
                    omega
                  · rw [if_neg c3]
                    exact ⟨ih.1, by show p.1.2.1 ≤ q.1.2.1; omega, fun z => by cases z⟩
            · rw [if_neg c2]; exact bad
