/-! WRITES -/
theorem RepC_cg {I I' : Im} {c : Nat} {σ : Cn} (h : RepC I c σ) (hn : σ.1 ≤ 8) (h1 : I' 1 c = I 1 c) (hb : ∀ k, k < 8 → I' 0 (k + 8 * c) = I 0 (k + 8 * c) ∧ I' 16 (k + 8 * c) = I 16 (k + 8 * c) ∧ I' 17 (k + 8 * c) = I 17 (k + 8 * c)) : RepC I' c σ := by
  obtain ⟨a0, a1, a2, a3, a4, aB⟩ := h
  refine ⟨by rw [h1]; exact a0, by rw [h1]; exact a1, by rw [h1]; exact a2, by rw [h1]; exact a3, by rw [h1]; exact a4, fun k hk => ?_⟩
  obtain ⟨b0, b1, b2⟩ := hb k (by omega)
  refine RB_same (aB k hk) (fun i _ => ?_) (fun i _ => ?_) (fun i _ => ?_)
  · show I' 0 _ _ = I 0 _ _; rw [b0]
  · show I' 16 _ _ = I 16 _ _; rw [b1]
  · show I' 17 _ _ = I 17 _ _; rw [b2]
theorem RepC_w {I I' : Im} {c k : Nat} {σ : Cn} {β' : Bn} (h : RepC I c σ) (hn : σ.1 ≤ 8) (hk : k < 8) (h1 : I' 1 c = I 1 c) (hb : ∀ k', k' < 8 → k' ≠ k → I' 0 (k' + 8 * c) = I 0 (k' + 8 * c) ∧ I' 16 (k' + 8 * c) = I 16 (k' + 8 * c) ∧ I' 17 (k' + 8 * c) = I 17 (k' + 8 * c)) (hr : RB (cB I' (k + 8 * c)) β') : RepC I' c (setB σ k β') := by
  obtain ⟨a0, a1, a2, a3, a4, aB⟩ := h
  refine ⟨by rw [h1]; exact a0, by rw [h1]; exact a1, by rw [h1]; exact a2, by rw [h1]; exact a3, by rw [h1]; exact a4, fun k' hk' => ?_⟩
  show RB _ (fu σ.2.2.2 k β' k')
  have hk2 : k' < σ.1 := hk'
  by_cases e : k' = k
  · subst e; rw [fu_s]; exact hr
  · rw [fu_n e]
    obtain ⟨b0, b1, b2⟩ := hb k' (by omega) e
    refine RB_same (aB k' hk2) (fun i _ => ?_) (fun i _ => ?_) (fun i _ => ?_)
    · show I' 0 _ _ = I 0 _ _; rw [b0]
    · show I' 16 _ _ = I 16 _ _; rw [b1]
    · show I' 17 _ _ = I 17 _ _; rw [b2]
theorem RepC_w0 {I : Im} {c k j v : Nat} {σ : Cn} {x : Int32} (h : RepC I c σ) (hn : σ.1 ≤ 8) (hk : k < σ.1) (hj : j < 6) (hx : x = nI v) : RepC (up3 I 0 (k + 8 * c) (j + 2) x) c (setB σ k (b0 (σ.2.2.2 k) j v)) :=
  RepC_w h hn (by omega) rfl (fun k' hk' e => ⟨up3_k (Or.inr (by omega)), rfl, rfl⟩) (RB_0 (h.2.2.2.2.2 k hk) hx (fun i hi => by
    show up3 I 0 (k + 8 * c) (j + 2) x 0 (k + 8 * c) (i + 2) = if i = j then x else I 0 (k + 8 * c) (i + 2)
    rw [up3_at]
    by_cases e : i = j
    · rw [if_pos (by omega), if_pos e]
    · rw [if_neg (by omega), if_neg e]) (fun _ _ => rfl) (fun _ _ => rfl))
theorem RepC_w1 {I : Im} {c k j v : Nat} {σ : Cn} {x : Int32} (h : RepC I c σ) (hn : σ.1 ≤ 8) (hk : k < σ.1) (hx : x = nI v) : RepC (up3 I 16 (k + 8 * c) j x) c (setB σ k (b1 (σ.2.2.2 k) j v)) :=
  RepC_w h hn (by omega) rfl (fun k' hk' e => ⟨rfl, up3_k (Or.inr (by omega)), rfl⟩) (RB_1 (h.2.2.2.2.2 k hk) hx (fun _ _ => rfl) (fun i hi => (up3_at i : up3 I 16 (k + 8 * c) j x 16 (k + 8 * c) i = _)) (fun _ _ => rfl))
theorem RepC_w2 {I : Im} {c k j v : Nat} {σ : Cn} {x : Int32} (h : RepC I c σ) (hn : σ.1 ≤ 8) (hk : k < σ.1) (hx : x = nI v) : RepC (up3 I 17 (k + 8 * c) j x) c (setB σ k (b2 (σ.2.2.2 k) j v)) :=
  RepC_w h hn (by omega) rfl (fun k' hk' e => ⟨rfl, rfl, up3_k (Or.inr (by omega))⟩) (RB_2 (h.2.2.2.2.2 k hk) hx (fun _ _ => rfl) (fun _ _ => rfl) (fun i hi => (up3_at i : up3 I 17 (k + 8 * c) j x 17 (k + 8 * c) i = _)))
/-- a bottle of another cellar is written -/
theorem RepC_o {I : Im} {c g q j : Nat} {σ : Cn} {x : Int32} (h : RepC I c σ) (hn : σ.1 ≤ 8) (hg : g = 0 ∨ g = 16 ∨ g = 17) (hq : q < 8 * c ∨ 8 * c + 8 ≤ q) : RepC (up3 I g q j x) c σ :=
  RepC_cg h hn (up3_k (Or.inl (by omega))) (fun k hk => ⟨up3_k (Or.inr (by omega)), up3_k (Or.inr (by omega)), up3_k (Or.inr (by omega))⟩)
/-- the now cellar's bottles in the whole state -/
def stB (s : St) (k : Nat) (β : Bn) : St := ((setB s.1.1 k β, s.1.2), s.2)
def G8 (s : St) : Prop := s.1.1.1 ≤ 8 ∧ ∀ e, s.2.1 = some e → e.1.1 ≤ 8
theorem G8_ {s : St} (G : GS s) : G8 s := ⟨G.1.1.1, fun e he => (G.2.1 e he).1.1⟩
def bo (s : St) (k : Nat) : Bn := s.1.1.2.2.2 k
abbrev nb (s : St) : Nat := s.1.1.1
def w0 (s : St) (k j v : Nat) : St := stB s k (b0 (bo s k) j v)
def w1 (s : St) (k j v : Nat) : St := stB s k (b1 (bo s k) j v)
def w2 (s : St) (k j v : Nat) : St := stB s k (b2 (bo s k) j v)
theorem RC_w {I : Im} {X : am_Z} {s : St} {k g j : Nat} {x : Int32} {β : Bn} (h : RC I X s) (G : G8 s) (hk : k < nb s) (hg : g = 0 ∨ g = 16 ∨ g = 17) (hR : RepC (up3 I g k j x) 0 (setB s.1.1 k β)) : RC (up3 I g k j x) X (stB s k β) := by
  obtain ⟨⟨h1, ht⟩, hi, hr, hs, hw, htp, hk', hid⟩ := h
  have hk8 : k < 8 := Nat.lt_of_lt_of_le hk G.1
  have hIm : ImC (up3 I g k j x) X s.2.1 := by
    rcases e : s.2.1 with _ | ei
    · rw [e] at hi
      rcases hg with rfl | rfl | rfl <;> exact hi
    · rw [e] at hi
      refine ⟨?_, RepC_o hi.2.1 (G.2 ei e) hg (by omega), ?_⟩
      · rcases hg with rfl | rfl | rfl <;> exact hi.1
      · rcases hg with rfl | rfl | rfl <;> exact hi.2.2
  rcases hg with rfl | rfl | rfl <;> exact ⟨⟨hR, ht⟩, hIm, hr, hs, hw, htp, hk', hid⟩
theorem RC_w0 {I : Im} {X : am_Z} {s : St} {k j v : Nat} {x : Int32} (h : RC I X s) (G : G8 s) (hk : k < nb s) (hj : j < 6) (hx : x = nI v) : RC (up3 I 0 k (j + 2) x) X (w0 s k j v) := RC_w h G hk (by omega) (RepC_w0 (c := 0) h.1.1 G.1 hk hj hx)
theorem RC_w1 {I : Im} {X : am_Z} {s : St} {k j v : Nat} {x : Int32} (h : RC I X s) (G : G8 s) (hk : k < nb s) (hx : x = nI v) : RC (up3 I 16 k j x) X (w1 s k j v) := RC_w h G hk (by omega) (RepC_w1 (c := 0) h.1.1 G.1 hk hx)
theorem RC_w2 {I : Im} {X : am_Z} {s : St} {k j v : Nat} {x : Int32} (h : RC I X s) (G : G8 s) (hk : k < nb s) (hx : x = nI v) : RC (up3 I 17 k j x) X (w2 s k j v) := RC_w h G hk (by omega) (RepC_w2 (c := 0) h.1.1 G.1 hk hx)
/-- the model -/
theorem CeM_w {S S' : Nat → Int32} {e : Ce} {σ' : Cn} (h : CeM S e) (hS : ∀ j, 150 ≤ j ∨ j = 1 → S' j = S j) (hR : RepM S' σ') : CeM S' (σ', e.2) := by
  obtain ⟨h1, h2, h3⟩ := h
  refine ⟨hR, by rw [hS 1 (by omega)]; exact h2, fun t ht => ?_⟩
  obtain ⟨a, b, c, d⟩ := h3 t ht
  refine ⟨by rw [hS _ (by omega)]; exact a, by rw [hS _ (by omega)]; exact b, by rw [hS _ (by omega)]; exact c, fun k hk => ?_⟩
  obtain ⟨p, q⟩ := d k hk
  exact ⟨by rw [hS _ (by omega)]; exact p, by rw [hS _ (by omega)]; exact q⟩
theorem RM_w {I : Im} {s : St} {j : Nat} {x : Int32} {σ' : Cn} (h : RM I s) (hj : j ≠ 1) (hj2 : j < 150) (hR : RepM (up3 I 30 0 j x 30 0) σ') : RM (up3 I 30 0 j x) ((σ', s.1.2), s.2) := by
  obtain ⟨h1, hi, hr, hs, hw, htp⟩ := h
  refine ⟨CeM_w h1 (fun i hi => ?_) hR, ?_, hr, hs, hw, htp⟩
  · exact up3_j (by omega)
  · rcases e : s.2.1 with _ | ei
    · rw [e] at hi; exact hi
    · rw [e] at hi; exact hi
theorem RM_w0 {I : Im} {s : St} {k j v : Nat} {x : Int32} (h : RM I s) (G : G8 s) (hk : k < nb s) (hj : j < 6) (hx : x = nI v) : RM (up3 I 30 0 (6 + 18 * k + j) x) (w0 s k j v) := RM_w h (by omega) (by have : nb s ≤ 8 := G.1; omega) (RepM_w0 h.1.1 hk (fun i => up3_at i) hj hx)
theorem RM_w1 {I : Im} {s : St} {k j v : Nat} {x : Int32} (h : RM I s) (G : G8 s) (hk : k < nb s) (hj : j < 6) (hx : x = nI v) : RM (up3 I 30 0 (6 + 18 * k + (6 + j)) x) (w1 s k j v) := RM_w h (by omega) (by have : nb s ≤ 8 := G.1; omega) (RepM_w1 h.1.1 hk (fun i => up3_at i) hj hx)
theorem RM_w2 {I : Im} {s : St} {k j v : Nat} {x : Int32} (h : RM I s) (G : G8 s) (hk : k < nb s) (hj : j < 6) (hx : x = nI v) : RM (up3 I 30 0 (6 + 18 * k + (12 + j)) x) (w2 s k j v) := RM_w h (by omega) (by have : nb s ≤ 8 := G.1; omega) (RepM_w2 h.1.1 hk (fun i => up3_at i) hj hx)
theorem bo_s {s : St} {k : Nat} {β : Bn} : bo (stB s k β) k = β := fu_s
theorem bo_n {s : St} {k k' : Nat} {β : Bn} (h : k' ≠ k) : bo (stB s k β) k' = bo s k' := fu_n h
theorem GS_B {s : St} {k : Nat} {β : Bn} (G : GS s) (hb : GB β) : GS (stB s k β) := by
  obtain ⟨⟨⟨g1, g2, g3, g4, g5⟩, g6, g7⟩, g8⟩ := G
  refine ⟨⟨⟨g1, g2, g3, g4, fun k' hk' => ?_⟩, g6, g7⟩, g8⟩
  show GB (fu _ _ _ k')
  by_cases e : k' = k
  · subst e; rw [fu_s]; exact hb
  · rw [fu_n e]; exact g5 k' hk'
theorem GS_b {s : St} {k : Nat} (G : GS s) (hk : k < nb s) : GB (bo s k) := G.1.1.2.2.2.2 k hk
def bd0 (j v : Nat) : Prop := (j = 0 → v ≤ 5) ∧ (j = 1 → v ≤ 99) ∧ (j = 2 → v ≤ 1) ∧ (j = 3 → v ≤ 6) ∧ (j = 5 → v ≤ 3)
theorem GB_0 {β : Bn} {j v : Nat} (h : GB β) (hv : bd0 j v) : GB (b0 β j v) := by
  obtain ⟨g0, g1, g2, g3, g5, gs⟩ := h
  obtain ⟨v0, v1, v2, v3, v5⟩ := hv
  have q : ∀ i m, β.1 i ≤ m → (j = i → v ≤ m) → fu β.1 j v i ≤ m := fun i m a b => by
    by_cases e : i = j
    · subst e; rw [fu_s]; exact b rfl
    · rw [fu_n e]; exact a
  exact ⟨q 0 5 g0 v0, q 1 99 g1 v1, q 2 1 g2 v2, q 3 6 g3 v3, q 5 3 g5 v5, gs⟩
theorem GB_1 {β : Bn} {j v : Nat} (h : GB β) (hv : v ≤ 24) : GB (b1 β j v) := by
  obtain ⟨g0, g1, g2, g3, g5, gs⟩ := h
  refine ⟨g0, g1, g2, g3, g5, fun i hi => ⟨?_, (gs i hi).2⟩⟩
  show fu β.2.1 j v i ≤ 24
  by_cases e : i = j
  · subst e; rw [fu_s]; exact hv
  · rw [fu_n e]; exact (gs i hi).1
theorem GB_2 {β : Bn} {j v : Nat} (h : GB β) (hv : v ≤ 24) : GB (b2 β j v) := by
  obtain ⟨g0, g1, g2, g3, g5, gs⟩ := h
  refine ⟨g0, g1, g2, g3, g5, fun i hi => ⟨(gs i hi).1, ?_⟩⟩
  show fu β.2.2 j v i ≤ 24
  by_cases e : i = j
  · subst e; rw [fu_s]; exact hv
  · rw [fu_n e]; exact (gs i hi).2
theorem GS_w0 {s : St} {k j v : Nat} (G : GS s) (hk : k < nb s) (hv : bd0 j v) : GS (w0 s k j v) := GS_B G (GB_0 (GS_b G hk) hv)
theorem GS_w1 {s : St} {k j v : Nat} (G : GS s) (hk : k < nb s) (hv : v ≤ 24) : GS (w1 s k j v) := GS_B G (GB_1 (GS_b G hk) hv)
theorem GS_w2 {s : St} {k j v : Nat} (G : GS s) (hk : k < nb s) (hv : v ≤ 24) : GS (w2 s k j v) := GS_B G (GB_2 (GS_b G hk) hv)
