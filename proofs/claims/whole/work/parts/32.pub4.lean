/-! count, tell, trim -/
abbrev wn (s : St) : Nat := s.2.2.2.2.1.1
abbrev tn (s : St) : Nat := s.2.2.2.2.2.1
def f_count (s : St) (w : Int32) : Int32 × St := if w = 0 then (nI (nb s), s) else if w = 1 then (nI (cH s 0), s) else if w = 2 then (nI (cH s 1), s) else if w = 3 then (nI (cH s 2), s) else if w = 4 then (nI s.1.2.1, s) else if w = 5 then (nI (wn s), s) else if w = 6 then (nI (tn s), s) else if w = 7 then (cZ s, s) else (cBAD, s)
set_option maxRecDepth 100000 in
set_option maxHeartbeats 4000000 in
theorem w_X7_count {I : Nat → Nat → Nat → Int32} {X : am_Z} {g : am_F} {gs : List am_F} {d : Nat} {Q : Option am_V → am_M → Prop} {s : St} (h : RC I X s) (G : GS s) {w : Int32} (k0 : (w = 0) → am_WP (am_psh g (some (.inl ((I 1 0 3)))) :: gs) (d + 1) (mk I X) Q) (k1 : (¬ w = 0) → (w = 1) → am_WP (am_psh g (some (.inl ((I 1 0 7)))) :: gs) (d + 1) (mk I X) Q) (k2 : (¬ w = 0) → (¬ w = 1) → (w = 2) → am_WP (am_psh g (some (.inl ((I 1 0 5)))) :: gs) (d + 1) (mk I X) Q) (k3 : (¬ w = 0) → (¬ w = 1) → (¬ w = 2) → (w = 3) → am_WP (am_psh g (some (.inl ((I 1 0 6)))) :: gs) (d + 1) (mk I X) Q) (k4 : (¬ w = 0) → (¬ w = 1) → (¬ w = 2) → (¬ w = 3) → (w = 4) → am_WP (am_psh g (some (.inl ((I 1 0 4)))) :: gs) (d + 1) (mk I X) Q) (k5 : (¬ w = 0) → (¬ w = 1) → (¬ w = 2) → (¬ w = 3) → (¬ w = 4) → (w = 5) → am_WP (am_psh g (some (.inl ((I 7 0 9)))) :: gs) (d + 1) (mk I X) Q) (k6 : (¬ w = 0) → (¬ w = 1) → (¬ w = 2) → (¬ w = 3) → (¬ w = 4) → (¬ w = 5) → (w = 6) → am_WP (am_psh g (some (.inl ((I 3 0 0)))) :: gs) (d + 1) (mk I X) Q) (k7 : (¬ w = 0) → (¬ w = 1) → (¬ w = 2) → (¬ w = 3) → (¬ w = 4) → (¬ w = 5) → (¬ w = 6) → (w = 7) → am_WP (am_psh g (some (.inl ((I 1 0 8)))) :: gs) (d + 1) (mk I X) Q) (k8 : (¬ w = 0) → (¬ w = 1) → (¬ w = 2) → (¬ w = 3) → (¬ w = 4) → (¬ w = 5) → (¬ w = 6) → (¬ w = 7) → am_WP (am_psh g (some (.inl ((-1000000001)))) :: gs) (d + 1) (mk I X) Q) : am_WP (am_entry mX7_count [.inr (.inr (some (7, 0))), .inl (w)] :: g :: gs) (d) (mk I X) Q := by
  have hn : I 1 0 3 = nI (nb s) := h.1.1.1
  have hn8 : nb s ≤ 8 := G.1.1.1
  refine am_go 400 ?_
  refine am_if (fun h1 => ?_) (fun h1 => ?_)
  · exact k0 h1
  refine am_if (fun h2 => ?_) (fun h2 => ?_)
  · exact k1 h1 h2
  refine am_if (fun h3 => ?_) (fun h3 => ?_)
  · exact k2 h1 h2 h3
  refine am_if (fun h4 => ?_) (fun h4 => ?_)
  · exact k3 h1 h2 h3 h4
  refine am_if (fun h5 => ?_) (fun h5 => ?_)
  · exact k4 h1 h2 h3 h4 h5
  refine am_if (fun h6 => ?_) (fun h6 => ?_)
  · exact k5 h1 h2 h3 h4 h5 h6
  refine am_if (fun h7 => ?_) (fun h7 => ?_)
  · exact k6 h1 h2 h3 h4 h5 h6 h7
  refine am_if (fun h8 => ?_) (fun h8 => ?_)
  · exact k7 h1 h2 h3 h4 h5 h6 h7 h8
  exact k8 h1 h2 h3 h4 h5 h6 h7 h8
theorem p_X7_count {I X d s} (h : RC I X s) (G : GS s) (w : Int32) : Sp mX7_count [.inr (.inr (some (7, 0))), .inl (w)] (d + 0) I X (OC I X (f_count s w)) := fun g gs Q K => by
  have hn : I 1 0 3 = nI (nb s) := h.1.1.1
  have hn8 : nb s ≤ 8 := G.1.1.1
  have g8 : G8 s := G8_ G
  refine w_X7_count h G  ?_ ?_ ?_ ?_ ?_ ?_ ?_ ?_ ?_
  · intro h0
    apply K_s K
    unfold f_count
    rw [if_pos h0]
    exact ⟨h.1.1.1, h, FrC_r⟩
  · intro h0 h1
    apply K_s K
    unfold f_count
    rw [if_neg h0, if_pos h1]
    exact ⟨h.1.1.2.1, h, FrC_r⟩
  · intro h0 h1 h2
    apply K_s K
    unfold f_count
    rw [if_neg h0, if_neg h1, if_pos h2]
    exact ⟨h.1.1.2.2.1, h, FrC_r⟩
  · intro h0 h1 h2 h3
    apply K_s K
    unfold f_count
    rw [if_neg h0, if_neg h1, if_neg h2, if_pos h3]
    exact ⟨h.1.1.2.2.2.1, h, FrC_r⟩
  · intro h0 h1 h2 h3 h4
    apply K_s K
    unfold f_count
    rw [if_neg h0, if_neg h1, if_neg h2, if_neg h3, if_pos h4]
    exact ⟨h.1.2.1, h, FrC_r⟩
  · intro h0 h1 h2 h3 h4 h5
    apply K_s K
    unfold f_count
    rw [if_neg h0, if_neg h1, if_neg h2, if_neg h3, if_neg h4, if_pos h5]
    exact ⟨h.2.2.2.2.1.1, h, FrC_r⟩
  · intro h0 h1 h2 h3 h4 h5 h6
    apply K_s K
    unfold f_count
    rw [if_neg h0, if_neg h1, if_neg h2, if_neg h3, if_neg h4, if_neg h5, if_pos h6]
    exact ⟨h.2.2.2.2.2.1.1, h, FrC_r⟩
  · intro h0 h1 h2 h3 h4 h5 h6 h7
    apply K_s K
    unfold f_count
    rw [if_neg h0, if_neg h1, if_neg h2, if_neg h3, if_neg h4, if_neg h5, if_neg h6, if_pos h7]
    exact ⟨h.1.1.2.2.2.2.1, h, FrC_r⟩
  · intro h0 h1 h2 h3 h4 h5 h6 h7
    apply K_s K
    unfold f_count
    rw [if_neg h0, if_neg h1, if_neg h2, if_neg h3, if_neg h4, if_neg h5, if_neg h6, if_neg h7]
    exact ⟨rfl, h, FrC_r⟩

set_option maxRecDepth 100000 in
set_option maxHeartbeats 4000000 in
theorem w_X8_count {I : Nat → Nat → Nat → Int32} {X : am_Z} {g : am_F} {gs : List am_F} {d : Nat} {Q : Option am_V → am_M → Prop} {s : St} (h : RM I s) (G : GS s) {w : Int32} (k0 : (w = 0) → am_WP (am_psh g (some (.inl ((I 30 0 0)))) :: gs) (d + 1) (mk I X) Q) (k1 : (¬ w = 0) → (w = 1) → am_WP (am_psh g (some (.inl ((I 30 0 2)))) :: gs) (d + 1) (mk I X) Q) (k2 : (¬ w = 0) → (¬ w = 1) → (w = 2) → am_WP (am_psh g (some (.inl ((I 30 0 3)))) :: gs) (d + 1) (mk I X) Q) (k3 : (¬ w = 0) → (¬ w = 1) → (¬ w = 2) → (w = 3) → am_WP (am_psh g (some (.inl ((I 30 0 4)))) :: gs) (d + 1) (mk I X) Q) (k4 : (¬ w = 0) → (¬ w = 1) → (¬ w = 2) → (¬ w = 3) → (w = 4) → am_WP (am_psh g (some (.inl ((I 30 0 1)))) :: gs) (d + 1) (mk I X) Q) (k5 : (¬ w = 0) → (¬ w = 1) → (¬ w = 2) → (¬ w = 3) → (¬ w = 4) → (w = 5) → am_WP (am_psh g (some (.inl ((I 8 0 33)))) :: gs) (d + 1) (mk I X) Q) (k6 : (¬ w = 0) → (¬ w = 1) → (¬ w = 2) → (¬ w = 3) → (¬ w = 4) → (¬ w = 5) → (w = 6) → am_WP (am_psh g (some (.inl ((I 8 0 18)))) :: gs) (d + 1) (mk I X) Q) (k7 : (¬ w = 0) → (¬ w = 1) → (¬ w = 2) → (¬ w = 3) → (¬ w = 4) → (¬ w = 5) → (¬ w = 6) → (w = 7) → am_WP (am_psh g (some (.inl ((I 30 0 5)))) :: gs) (d + 1) (mk I X) Q) (k8 : (¬ w = 0) → (¬ w = 1) → (¬ w = 2) → (¬ w = 3) → (¬ w = 4) → (¬ w = 5) → (¬ w = 6) → (¬ w = 7) → am_WP (am_psh g (some (.inl ((-1000000001)))) :: gs) (d + 1) (mk I X) Q) : am_WP (am_entry mX8_count [.inr (.inr (some (8, 0))), .inl (w)] :: g :: gs) (d) (mk I X) Q := by
  have hn : I 30 0 0 = nI (nb s) := h.1.1.1
  have hn8 : nb s ≤ 8 := G.1.1.1
  refine am_go 400 ?_
  refine am_if (fun h1 => ?_) (fun h1 => ?_)
  · exact k0 h1
  refine am_if (fun h2 => ?_) (fun h2 => ?_)
  · exact k1 h1 h2
  refine am_if (fun h3 => ?_) (fun h3 => ?_)
  · exact k2 h1 h2 h3
  refine am_if (fun h4 => ?_) (fun h4 => ?_)
  · exact k3 h1 h2 h3 h4
  refine am_if (fun h5 => ?_) (fun h5 => ?_)
  · exact k4 h1 h2 h3 h4 h5
  refine am_if (fun h6 => ?_) (fun h6 => ?_)
  · exact k5 h1 h2 h3 h4 h5 h6
  refine am_if (fun h7 => ?_) (fun h7 => ?_)
  · exact k6 h1 h2 h3 h4 h5 h6 h7
  refine am_if (fun h8 => ?_) (fun h8 => ?_)
  · exact k7 h1 h2 h3 h4 h5 h6 h7 h8
  exact k8 h1 h2 h3 h4 h5 h6 h7 h8
theorem p_X8_count {I X d s} (h : RM I s) (G : GS s) (w : Int32) : Sp mX8_count [.inr (.inr (some (8, 0))), .inl (w)] (d + 0) I X (OM I X (f_count s w)) := fun g gs Q K => by
  have hn : I 30 0 0 = nI (nb s) := h.1.1.1
  have hn8 : nb s ≤ 8 := G.1.1.1
  have g8 : G8 s := G8_ G
  refine w_X8_count h G  ?_ ?_ ?_ ?_ ?_ ?_ ?_ ?_ ?_
  · intro h0
    apply K_s K
    unfold f_count
    rw [if_pos h0]
    exact ⟨h.1.1.1, h, ⟨FrM_r, rfl⟩⟩
  · intro h0 h1
    apply K_s K
    unfold f_count
    rw [if_neg h0, if_pos h1]
    exact ⟨h.1.1.2.1, h, ⟨FrM_r, rfl⟩⟩
  · intro h0 h1 h2
    apply K_s K
    unfold f_count
    rw [if_neg h0, if_neg h1, if_pos h2]
    exact ⟨h.1.1.2.2.1, h, ⟨FrM_r, rfl⟩⟩
  · intro h0 h1 h2 h3
    apply K_s K
    unfold f_count
    rw [if_neg h0, if_neg h1, if_neg h2, if_pos h3]
    exact ⟨h.1.1.2.2.2.1, h, ⟨FrM_r, rfl⟩⟩
  · intro h0 h1 h2 h3 h4
    apply K_s K
    unfold f_count
    rw [if_neg h0, if_neg h1, if_neg h2, if_neg h3, if_pos h4]
    exact ⟨h.1.2.1, h, ⟨FrM_r, rfl⟩⟩
  · intro h0 h1 h2 h3 h4 h5
    apply K_s K
    unfold f_count
    rw [if_neg h0, if_neg h1, if_neg h2, if_neg h3, if_neg h4, if_pos h5]
    exact ⟨h.2.2.2.2.1.1, h, ⟨FrM_r, rfl⟩⟩
  · intro h0 h1 h2 h3 h4 h5 h6
    apply K_s K
    unfold f_count
    rw [if_neg h0, if_neg h1, if_neg h2, if_neg h3, if_neg h4, if_neg h5, if_pos h6]
    exact ⟨h.2.2.2.2.2.1, h, ⟨FrM_r, rfl⟩⟩
  · intro h0 h1 h2 h3 h4 h5 h6 h7
    apply K_s K
    unfold f_count
    rw [if_neg h0, if_neg h1, if_neg h2, if_neg h3, if_neg h4, if_neg h5, if_neg h6, if_pos h7]
    exact ⟨h.1.1.2.2.2.2.1, h, ⟨FrM_r, rfl⟩⟩
  · intro h0 h1 h2 h3 h4 h5 h6 h7
    apply K_s K
    unfold f_count
    rw [if_neg h0, if_neg h1, if_neg h2, if_neg h3, if_neg h4, if_neg h5, if_neg h6, if_neg h7]
    exact ⟨rfl, h, ⟨FrM_r, rfl⟩⟩

def stW (s : St) (w : Nat × (Nat → Int32)) : St := (s.1, s.2.1, s.2.2.1, s.2.2.2.1, w, s.2.2.2.2.2)
def stT (s : St) (t : Nat × (Nat → Nat)) : St := (s.1, s.2.1, s.2.2.1, s.2.2.2.1, s.2.2.2.2.1, t)
def f_tell (s : St) (v : Int32) : Int32 × St := if wn s < 60 then (nI (wn s + 1), stW s (wn s + 1, fu s.2.2.2.2.1.2 (wn s) v)) else (cFULL, s)
def f_trim (s : St) (n : Int32) : Int32 × St := if 0 ≤ n ∧ n ≤ nI (tn s) then (n, stT s (kx n, s.2.2.2.2.2.2)) else (cBAD, s)
theorem WtC_w {I : Im} {w : Nat × (Nat → Int32)} {v x : Int32} (h : WtC I w) (hx : x = nI (w.1 + 1)) : WtC (up3 (up3 I 26 0 w.1 v) 7 0 9 x) (w.1 + 1, fu w.2 w.1 v) := by
  refine ⟨hx, fun j hj => ?_⟩
  show up3 I 26 0 w.1 v 26 0 j = if j = w.1 then v else w.2 j
  rw [up3_at]
  by_cases e : j = w.1
  · rw [if_pos e, if_pos e]
  · have hj' : j < w.1 + 1 := hj
    rw [if_neg e, if_neg e]; exact h.2 j (by omega)
theorem WtM_w {I : Im} {w : Nat × (Nat → Int32)} {v x : Int32} (h : WtM I w) (hx : x = nI (w.1 + 1)) : WtM (up3 (up3 I 48 0 w.1 v) 8 0 33 x) (w.1 + 1, fu w.2 w.1 v) := by
  refine ⟨hx, fun j hj => ?_⟩
  show up3 I 48 0 w.1 v 48 0 j = if j = w.1 then v else w.2 j
  rw [up3_at]
  by_cases e : j = w.1
  · rw [if_pos e, if_pos e]
  · have hj' : j < w.1 + 1 := hj
    rw [if_neg e, if_neg e]; exact h.2 j (by omega)
set_option maxRecDepth 100000 in
set_option maxHeartbeats 4000000 in
theorem w_X7_tell {I : Nat → Nat → Nat → Int32} {X : am_Z} {g : am_F} {gs : List am_F} {d : Nat} {Q : Option am_V → am_M → Prop} {s : St} (h : RC I X s) (G : GS s) (hw6 : wn s ≤ 60) {v : Int32} (k0 : ((wn s) < 60) → am_WP (am_psh g (some (.inl (((I 7 0 9) + 1)))) :: gs) (d + 1) (mk (up3 (up3 I 26 0 (((I 7 0 9)).toNatClampNeg) (v)) 7 0 (9) (((I 7 0 9) + 1))) X) Q) (k1 : (¬ ((wn s) < 60)) → am_WP (am_psh g (some (.inl ((-1000000003)))) :: gs) (d + 1) (mk I X) Q) : am_WP (am_entry mX7_tell [.inr (.inr (some (7, 0))), .inl (v)] :: g :: gs) (d) (mk I X) Q := by
  have hn : I 1 0 3 = nI (nb s) := h.1.1.1
  have hn8 : nb s ≤ 8 := G.1.1.1
  refine am_go 400 ?_
  refine am_if (fun h1 => ?_) (fun h1 => ?_)
  · have nh1 := (lt_nat (a := (wn s)) (b := 60) h.2.2.2.2.1.1 (rfl : (60 : Int32) = nI 60) (by omega) (by omega)).mp h1
    refine am_f (ix_in (n := (wn s)) (N := 60) h.2.2.2.2.1.1 (by omega) (by decide)) ?_
    exact k0 nh1
  · have nh1 := mt (lt_nat (a := (wn s)) (b := 60) h.2.2.2.2.1.1 (rfl : (60 : Int32) = nI 60) (by omega) (by omega)).mpr h1
    exact k1 nh1
theorem p_X7_tell {I X d s} (h : RC I X s) (G : GS s) (v : Int32) : Sp mX7_tell [.inr (.inr (some (7, 0))), .inl (v)] (d + 0) I X (OC I X (f_tell s v)) := fun g gs Q K => by
  have hn : I 1 0 3 = nI (nb s) := h.1.1.1
  have hn8 : nb s ≤ 8 := G.1.1.1
  have g8 : G8 s := G8_ G
  have hw6 : wn s ≤ 60 := G.2.2.2.2.1
  refine w_X7_tell h G hw6  ?_ ?_
  · intro h0
    have e := h.2.2.2.2.1.1
    rw [show I 7 0 9 = nI (wn s) from e, nI_clamp (by omega)]
    apply K_s K
    unfold f_tell
    rw [if_pos h0]
    exact ⟨nI_s _, ⟨h.1, RC_im h.2.1 rfl (fun _ q => q), h.2.2.1, h.2.2.2.1, WtC_w h.2.2.2.2.1 (nI_s _), h.2.2.2.2.2⟩, FrC_3 rfl (FrC_3 rfl FrC_r)⟩
  · intro h0
    apply K_s K
    unfold f_tell
    rw [if_neg h0]
    exact ⟨rfl, h, FrC_r⟩

set_option maxRecDepth 100000 in
set_option maxHeartbeats 4000000 in
theorem w_X8_tell {I : Nat → Nat → Nat → Int32} {X : am_Z} {g : am_F} {gs : List am_F} {d : Nat} {Q : Option am_V → am_M → Prop} {s : St} (h : RM I s) (G : GS s) (hw6 : wn s ≤ 60) {v : Int32} (k0 : ((wn s) = 60) → am_WP (am_psh g (some (.inl ((-1000000003)))) :: gs) (d + 1) (mk I X) Q) (k1 : (¬ ((wn s) = 60)) → am_WP (am_psh g (some (.inl (((I 8 0 33) + 1)))) :: gs) (d + 1) (mk (up3 (up3 I 48 0 (((I 8 0 33)).toNatClampNeg) (v)) 8 0 (33) (((I 8 0 33) + 1))) X) Q) : am_WP (am_entry mX8_tell [.inr (.inr (some (8, 0))), .inl (v)] :: g :: gs) (d) (mk I X) Q := by
  have hn : I 30 0 0 = nI (nb s) := h.1.1.1
  have hn8 : nb s ≤ 8 := G.1.1.1
  refine am_go 400 ?_
  refine am_if (fun h1 => ?_) (fun h1 => ?_)
  · have nh1 := (eq_nat (a := (wn s)) (b := 60) h.2.2.2.2.1.1 (rfl : (60 : Int32) = nI 60) (by omega) (by omega)).mp h1
    exact k0 nh1
  · have nh1 := mt (eq_nat (a := (wn s)) (b := 60) h.2.2.2.2.1.1 (rfl : (60 : Int32) = nI 60) (by omega) (by omega)).mpr h1
    refine am_f (ix_in (n := (wn s)) (N := 60) h.2.2.2.2.1.1 (by omega) (by decide)) ?_
    exact k1 nh1
theorem p_X8_tell {I X d s} (h : RM I s) (G : GS s) (v : Int32) : Sp mX8_tell [.inr (.inr (some (8, 0))), .inl (v)] (d + 0) I X (OM I X (f_tell s v)) := fun g gs Q K => by
  have hn : I 30 0 0 = nI (nb s) := h.1.1.1
  have hn8 : nb s ≤ 8 := G.1.1.1
  have g8 : G8 s := G8_ G
  have hw6 : wn s ≤ 60 := G.2.2.2.2.1
  refine w_X8_tell h G hw6  ?_ ?_
  · intro h0
    apply K_s K
    unfold f_tell
    rw [if_neg (by omega)]
    exact ⟨rfl, h, ⟨FrM_r, rfl⟩⟩
  · intro h0
    have e := h.2.2.2.2.1.1
    rw [show I 8 0 33 = nI (wn s) from e, nI_clamp (by omega)]
    apply K_s K
    unfold f_tell
    rw [if_pos (by omega)]
    exact ⟨nI_s _, ⟨h.1, RM_im h.2.1 rfl rfl, h.2.2.1, h.2.2.2.1, WtM_w h.2.2.2.2.1 (nI_s _), h.2.2.2.2.2⟩, FrM_3 rfl (FrM_3 rfl FrM_r), rfl⟩

set_option maxRecDepth 100000 in
set_option maxHeartbeats 4000000 in
theorem w_X7_trim {I : Nat → Nat → Nat → Int32} {X : am_Z} {g : am_F} {gs : List am_F} {d : Nat} {Q : Option am_V → am_M → Prop} {s : St} (h : RC I X s) (G : GS s) {n : Int32} (k0 : (¬ ((0 : Int32) ≤ n ∧ n ≤ (I 3 0 0))) → am_WP (am_psh g (some (.inl ((-1000000001)))) :: gs) (d + 2) (mk I X) Q) (k1 : ((0 : Int32) ≤ n ∧ n ≤ (I 3 0 0)) → am_WP (am_psh g (some (.inl (n))) :: gs) (d + 2) (mk (up3 I 3 0 (0) (n)) X) Q) : am_WP (am_entry mX7_trim [.inr (.inr (some (7, 0))), .inl (n)] :: g :: gs) (d + 1) (mk I X) Q := by
  have hn : I 1 0 3 = nI (nb s) := h.1.1.1
  have hn8 : nb s ≤ 8 := G.1.1.1
  refine am_go 400 ?_
  refine (c_X7_within (n) (0) ((I 3 0 0))) _ _ _ ?_
  refine am_go 400 ?_
  refine am_if (fun h1 => ?_) (fun h1 => ?_)
  · have h1 := bI_0.mp h1
    exact k0 h1
  · have h1 := bI_1.mp h1
    exact k1 h1
theorem p_X7_trim {I X d s} (h : RC I X s) (G : GS s) (n : Int32) : Sp mX7_trim [.inr (.inr (some (7, 0))), .inl (n)] (d + 1) I X (OC I X (f_trim s n)) := fun g gs Q K => by
  have hn : I 1 0 3 = nI (nb s) := h.1.1.1
  have hn8 : nb s ≤ 8 := G.1.1.1
  have g8 : G8 s := G8_ G
  have ht : I 3 0 0 = nI (tn s) := h.2.2.2.2.2.1.1
  have t96 : tn s ≤ 96 := G.2.2.2.2.2.1
  refine w_X7_trim h G  ?_ ?_
  · intro h0
    rw [ht] at h0
    apply K_s K
    unfold f_trim
    rw [if_neg h0]
    exact ⟨rfl, h, FrC_r⟩
  · intro h0
    rw [ht] at h0
    obtain ⟨e_n, l_n⟩ := okl (m := tn s) (by omega) h0
    apply K_s K
    unfold f_trim
    rw [if_pos h0]
    exact ⟨rfl, ⟨h.1, h.2.1, h.2.2.1, h.2.2.2.1, h.2.2.2.2.1, ⟨e_n, fun j hj => h.2.2.2.2.2.1.2 j (Nat.lt_of_lt_of_le hj l_n)⟩, h.2.2.2.2.2.2⟩, FrC_3 rfl FrC_r⟩

set_option maxRecDepth 100000 in
set_option maxHeartbeats 4000000 in
theorem w_X8_trim {I : Nat → Nat → Nat → Int32} {X : am_Z} {g : am_F} {gs : List am_F} {d : Nat} {Q : Option am_V → am_M → Prop} {s : St} (h : RM I s) (G : GS s) {n : Int32} (k0 : (¬ ((0 : Int32) ≤ n ∧ n ≤ (I 8 0 18))) → am_WP (am_psh g (some (.inl ((-1000000001)))) :: gs) (d + 2) (mk I X) Q) (k1 : ((0 : Int32) ≤ n ∧ n ≤ (I 8 0 18)) → am_WP (am_psh g (some (.inl (n))) :: gs) (d + 2) (mk (up3 I 8 0 (18) (n)) X) Q) : am_WP (am_entry mX8_trim [.inr (.inr (some (8, 0))), .inl (n)] :: g :: gs) (d + 1) (mk I X) Q := by
  have hn : I 30 0 0 = nI (nb s) := h.1.1.1
  have hn8 : nb s ≤ 8 := G.1.1.1
  refine am_go 400 ?_
  refine (m_isIn (n) (0) ((I 8 0 18)) _ _) _ _ _ ?_
  refine am_go 400 ?_
  refine am_if (fun h1 => ?_) (fun h1 => ?_)
  · have h1 := bI_0.mp h1
    exact k0 h1
  · have h1 := bI_1.mp h1
    exact k1 h1
theorem p_X8_trim {I X d s} (h : RM I s) (G : GS s) (n : Int32) : Sp mX8_trim [.inr (.inr (some (8, 0))), .inl (n)] (d + 1) I X (OM I X (f_trim s n)) := fun g gs Q K => by
  have hn : I 30 0 0 = nI (nb s) := h.1.1.1
  have hn8 : nb s ≤ 8 := G.1.1.1
  have g8 : G8 s := G8_ G
  have ht : I 8 0 18 = nI (tn s) := h.2.2.2.2.2.1
  have t96 : tn s ≤ 96 := G.2.2.2.2.2.1
  refine w_X8_trim h G  ?_ ?_
  · intro h0
    rw [ht] at h0
    apply K_s K
    unfold f_trim
    rw [if_neg h0]
    exact ⟨rfl, h, ⟨FrM_r, rfl⟩⟩
  · intro h0
    rw [ht] at h0
    obtain ⟨e_n, l_n⟩ := okl (m := tn s) (by omega) h0
    apply K_s K
    unfold f_trim
    rw [if_pos h0]
    exact ⟨rfl, ⟨h.1, RM_im h.2.1 rfl rfl, h.2.2.1, h.2.2.2.1, h.2.2.2.2.1, ⟨e_n, fun j hj => h.2.2.2.2.2.2 j (Nat.lt_of_lt_of_le hj l_n)⟩⟩, FrM_3 rfl FrM_r, rfl⟩

