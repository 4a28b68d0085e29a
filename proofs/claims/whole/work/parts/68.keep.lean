/-! keep, back, thinkAhead -/
theorem RC_b {c I X s I1 X1} (h : RC I X s) (G : G8 s) (hc : c ≠ 0) (F : BaF c I X I1 X1) : CeC I1 X1 0 s.1 ∧ (c ≠ 1 → ImC I1 X1 s.2.1) ∧ (∀ k, k < 4 → RoC I1 k (s.2.2.1 k)) ∧ (∀ k, k < 5 → SlC I1 k (s.2.2.2.1 k)) ∧ WtC I1 s.2.2.2.2.1 ∧ TpC I1 s.2.2.2.2.2 ∧ NkC I1 ∧ IdC X1 := by
  have ee : ∀ g, ¬ (g = 0 ∨ g = 1 ∨ g = 16 ∨ g = 17 ∨ g = 18) → I1 g = I g := fun g hg => BaF_g F hg
  obtain ⟨⟨h1, ht⟩, hi, hr, hs, hw, htp, hk', hid⟩ := h
  refine ⟨⟨RepC_Ba h1 G.1 (fun e => hc e.symm) F, TsC_Ba ht (fun e => hc e.symm) F⟩, fun hc1 => ?_, fun k hk => ?_, fun k hk => ?_, ?_, ?_, ?_, ?_⟩
  · rcases e : s.2.1 with _ | ei
    · rw [e] at hi; show I1 7 0 8 = 0; rw [ee 7 (by decide)]; exact hi
    · rw [e] at hi; exact ⟨by rw [ee 7 (by decide)]; exact hi.1, RepC_Ba hi.2.1 (G.2 ei e) (fun e => hc1 e.symm) F, TsC_Ba hi.2.2 (fun e => hc1 e.symm) F⟩
  · obtain ⟨a, b, c⟩ := hr k hk
    exact ⟨by rw [ee 4 (by decide)]; exact a, by rw [ee 4 (by decide)]; exact b, by rw [ee 25 (by decide)]; exact c⟩
  · obtain ⟨a, b, c, d⟩ := hs k hk
    exact ⟨by rw [ee 5 (by decide)]; exact a, by rw [ee 5 (by decide)]; exact b, by rw [ee 4 (by decide), ee 25 (by decide)]; exact c, by rw [ee 5 (by decide)]; exact d⟩
  · exact ⟨by rw [ee 7 (by decide)]; exact hw.1, by rw [ee 26 (by decide)]; exact hw.2⟩
  · exact ⟨by rw [ee 3 (by decide)]; exact htp.1, by rw [ee 23 (by decide)]; exact htp.2⟩
  · exact ⟨by rw [ee 20 (by decide)]; exact hk'.1, by rw [ee 21 (by decide)]; exact hk'.2.1, by rw [ee 22 (by decide)]; exact hk'.2.2⟩
  · unfold IdC; rw [F.2.1]; exact hid
theorem FrC_Ba {c I X I1 X1} (F : BaF c I X I1 X1) : FrC I X I1 X1 := ⟨fun g hg => BaF_g F (fun z => by rcases z with rfl | rfl | rfl | rfl | rfl <;> cases hg), by rw [F.2.1], by rw [F.2.1]; omega, by rw [F.2.1]; omega⟩
theorem FrC_X3 {I X I' X' g k j v} (hg : mg g = false) (h : FrC I X I' X') : FrC I X (up3 I' g k j v) X' := ⟨fun g' hg' => by rw [up3_g (fun e => by rw [e, hg] at hg'; cases hg')]; exact h.1 g' hg', h.2⟩
theorem FrC_tr {I X I' X' I''} (h : FrC I X I' X') (h2 : FrC I' X' I'' X') : FrC I X I'' X' := ⟨fun g hg => (h2.1 g hg).trans (h.1 g hg), h.2⟩
def f_keep (s : St) : Int32 × St := (nI (nb s), (s.1, some s.1, s.2.2))
def f_back (s : St) : Int32 × St := match s.2.1 with
  | none => (cNO, s)
  | some e => (nI e.1.1, (e, s.2))
theorem RC_keep {I X s I1 X1} (h : RC I X s) (G : G8 s) (hC : CeC I1 X1 1 s.1) (F : BaF 1 I X I1 X1) : RC (up3 I1 7 0 8 1) X1 (s.1, some s.1, s.2.2) := by
  obtain ⟨a, _, c, d, e, f, g, i⟩ := RC_b h G (by decide) F
  exact ⟨a, ⟨up3_s, hC⟩, c, d, e, f, g, i⟩
theorem RC_th {I X s I1 X1} (h : RC I X s) (G : G8 s) (F : BaF 2 I X I1 X1) : RC I1 X1 s := by
  obtain ⟨a, b, c, d, e, f, g, i⟩ := RC_b h G (by decide) F
  exact ⟨a, b (by decide), c, d, e, f, g, i⟩
theorem RC_back {I X s I1 X1 ei} (h : RC I X s) (G : G8 s) (he : s.2.1 = some ei) (hC : CeC I1 X1 0 ei) (F : BaF 0 I X I1 X1) : RC I1 X1 (ei, s.2) := by
  have ee : ∀ g, ¬ (g = 0 ∨ g = 1 ∨ g = 16 ∨ g = 17 ∨ g = 18) → I1 g = I g := fun g hg => BaF_g F hg
  obtain ⟨⟨h1, ht⟩, hi, hr, hs, hw, htp, hk', hid⟩ := h
  refine ⟨hC, ?_, fun k hk => ?_, fun k hk => ?_, ?_, ?_, ?_, ?_⟩
  · show ImC I1 X1 s.2.1
    rw [he] at hi ⊢
    exact ⟨by rw [ee 7 (by decide)]; exact hi.1, RepC_Ba hi.2.1 (G.2 ei he) (by decide) F, TsC_Ba hi.2.2 (by decide) F⟩
  · obtain ⟨a, b, c⟩ := hr k hk
    exact ⟨by rw [ee 4 (by decide)]; exact a, by rw [ee 4 (by decide)]; exact b, by rw [ee 25 (by decide)]; exact c⟩
  · obtain ⟨a, b, c, d⟩ := hs k hk
    exact ⟨by rw [ee 5 (by decide)]; exact a, by rw [ee 5 (by decide)]; exact b, by rw [ee 4 (by decide), ee 25 (by decide)]; exact c, by rw [ee 5 (by decide)]; exact d⟩
  · exact ⟨by rw [ee 7 (by decide)]; exact hw.1, by rw [ee 26 (by decide)]; exact hw.2⟩
  · exact ⟨by rw [ee 3 (by decide)]; exact htp.1, by rw [ee 23 (by decide)]; exact htp.2⟩
  · exact ⟨by rw [ee 20 (by decide)]; exact hk'.1, by rw [ee 21 (by decide)]; exact hk'.2.1, by rw [ee 22 (by decide)]; exact hk'.2.2⟩
  · unfold IdC; rw [F.2.1]; exact hid
set_option maxRecDepth 100000 in
set_option maxHeartbeats 4000000 in
theorem w_X7_keep {I : Nat → Nat → Nat → Int32} {X : am_Z} {g : am_F} {gs : List am_F} {d : Nat} {Q : Option am_V → am_M → Prop} {s : St} (h : RC I X s) (G : GS s)  (k0 : ∀ (I1 : Im) (X1 : am_Z), (CeC I1 X1 1 s.1 ∧ BaF 1 I X I1 X1) → am_WP (am_psh g (some (.inl ((nI (nb s))))) :: gs) (d + 3) (mk (up3 I1 7 0 (8) (1)) X1) Q) : am_WP (am_entry mX7_keep [.inr (.inr (some (7, 0)))] :: g :: gs) (d + 2) (mk I X) Q := by
  have hn8 : nb s ≤ 8 := G.1.1.1
  refine am_go 400 ?_
  refine (c_X1_becomeAs (I := I) (X := X) (c := 1) (o := 0) (e := s.1) h.1 (by decide) (by decide) (by decide) G.1.1.1 G.1.2.2.1) _ _ _ ?_
  intro I1 X1 p1
  refine am_go 400 ?_
  have tk0 : (up3 I1 7 0 (8) (1)) 1 0 3 = nI (nb s) := ((congrFun (p1.2.1 1 0 (fun z => by omega) (fun z => by omega) (fun z => by omega)) _).trans (h.1.1.1))
  show am_WP (am_psh g (some (.inl (((up3 I1 7 0 (8) (1)) 1 0 3)))) :: gs) (d + 3) (mk (up3 I1 7 0 (8) (1)) X1) Q
  try rw [tk0]
  exact k0 I1 X1 p1
theorem p_X7_keep {I X d s} (h : RC I X s) (G : GS s) : Sp mX7_keep [.inr (.inr (some (7, 0)))] (d + 2) I X (OC I X (f_keep s)) := fun g gs Q K => by
  have hn8 : nb s ≤ 8 := G.1.1.1
  have g8 : G8 s := G8_ G
  refine w_X7_keep h G  ?_
  · intro I1 X1 p1
    apply K_s K
    unfold f_keep
    exact ⟨rfl, RC_keep h g8 p1.1 p1.2, FrC_X3 rfl (FrC_Ba p1.2)⟩

set_option maxRecDepth 100000 in
set_option maxHeartbeats 4000000 in
theorem w_backC_0 {I : Nat → Nat → Nat → Int32} {X : am_Z} {g : am_F} {gs : List am_F} {d : Nat} {Q : Option am_V → am_M → Prop} (h7 : I 7 0 8 = 0) (k0 : am_WP (am_psh g (some (.inl ((-1000000002)))) :: gs) (d + 3) (mk I X) Q) : am_WP (am_entry mX7_back [.inr (.inr (some (7, 0)))] :: g :: gs) (d + 2) (mk I X) Q := by
  refine am_go 400 ?_
  have tk0 : I 7 0 8 = 0 := h7
  refine am_t (by show (I 7 0 8) = 0; (try rw [tk0]); first | done | exact rfl) ?_
  exact k0
set_option maxRecDepth 100000 in
set_option maxHeartbeats 4000000 in
theorem w_backC_1 {I : Nat → Nat → Nat → Int32} {X : am_Z} {g : am_F} {gs : List am_F} {d : Nat} {Q : Option am_V → am_M → Prop} {s : St} (h : RC I X s) (G : GS s) {ei : Ce} (he : s.2.1 = some ei) (h7 : I 7 0 8 = 1) (hE : CeC I X 1 ei) (h8 : ei.1.1 ≤ 8) (h14 : ei.2.1 ≤ 14) (k0 : ∀ (I1 : Im) (X1 : am_Z), (CeC I1 X1 0 ei ∧ BaF 0 I X I1 X1) → am_WP (am_psh g (some (.inl ((nI ei.1.1)))) :: gs) (d + 3) (mk I1 X1) Q) : am_WP (am_entry mX7_back [.inr (.inr (some (7, 0)))] :: g :: gs) (d + 2) (mk I X) Q := by
  refine am_go 400 ?_
  have tk0 : I 7 0 8 = 1 := h7
  refine am_f (by show ¬ (I 7 0 8) = 0; (try rw [tk0]); first | done | exact (by decide)) ?_
  refine (c_X1_becomeAs (I := I) (X := X) (c := 0) (o := 1) (e := ei) hE (by decide) (by decide) (by decide) h8 h14) _ _ _ ?_
  intro I1 X1 p1
  refine am_go 400 ?_
  have tk1 : I1 1 0 3 = nI ei.1.1 := p1.1.1.1
  show am_WP (am_psh g (some (.inl ((I1 1 0 3)))) :: gs) (d + 3) (mk I1 X1) Q
  try rw [tk1]
  exact k0 I1 X1 p1
theorem p_X7_back {I X d s} (h : RC I X s) (G : GS s) : Sp mX7_back [.inr (.inr (some (7, 0)))] (d + 2) I X (OC I X (f_back s)) := fun g gs Q K => by
  have hi := h.2.1
  rcases he : s.2.1 with _ | ei
  · rw [he] at hi
    have e : f_back s = (cNO, s) := by unfold f_back; rw [he]
    rw [e] at K
    exact w_backC_0 hi (K_s K ⟨rfl, h, FrC_r⟩)
  · rw [he] at hi
    have e : f_back s = (nI ei.1.1, (ei, s.2)) := by unfold f_back; rw [he]
    rw [e] at K
    have ge := G.2.1 ei he
    exact w_backC_1 h G he hi.1 hi.2 ge.1.1 ge.2.2.1 (fun I1 X1 p1 => K_s K ⟨rfl, RC_back h (G8_ G) he p1.1 p1.2, FrC_Ba p1.2⟩)
