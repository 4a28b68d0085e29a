/-! the law: one call -/
theorem Sp_as {mid : Nat} {as as' : List am_V} {d : Nat} {I : Im} {X : am_Z} {P : Int32 → Im → am_Z → Prop} (e : as = as') (h : Sp mid as' d I X P) : Sp mid as d I X P := e ▸ h
theorem RM_F {I X I' X' s} (h : RM I s) (F : FrC I X I' X') : RM I' s := by
  obtain ⟨h1, hi, hr, hs, hw, htp⟩ := h
  have f := F.1
  refine ⟨by rw [f 30 rfl]; exact h1, RM_im hi (by rw [f 8 rfl]) (by rw [f 31 rfl]), fun k hk => ?_, fun k hk => ?_, ?_, ?_⟩
  · obtain ⟨a, b, c⟩ := hr k hk
    exact ⟨by rw [f 33 rfl]; exact a, by rw [f 34 rfl]; exact b, by rw [f 35 rfl]; exact c⟩
  · obtain ⟨a, b, c, d⟩ := hs k hk
    exact ⟨by rw [f 36 rfl]; exact a, by rw [f 37 rfl, f 38 rfl]; exact b, by rw [f 39 rfl, f 40 rfl]; exact c, by rw [f 37 rfl]; exact d⟩
  · exact ⟨by rw [f 8 rfl]; exact hw.1, by rw [f 48 rfl]; exact hw.2⟩
  · exact ⟨by rw [f 8 rfl]; exact htp.1, by rw [f 44 rfl]; exact htp.2⟩
theorem CeC_M {I I' : Im} {X : am_Z} {c : Nat} {e : Ce} (h : CeC I X c e) (f : FrM I I') : CeC I' X c e := by
  obtain ⟨⟨a0, a1, a2, a3, a4, aB⟩, b0, b1, b2⟩ := h
  have q1 := f 1 rfl
  refine ⟨⟨by rw [q1]; exact a0, by rw [q1]; exact a1, by rw [q1]; exact a2, by rw [q1]; exact a3, by rw [q1]; exact a4, fun k hk => RB_same (aB k hk) (fun i _ => ?_) (fun i _ => ?_) (fun i _ => ?_)⟩, by rw [q1]; exact b0, by rw [f 18 rfl]; exact b1, fun t ht => ?_⟩
  · show I' 0 _ _ = I 0 _ _; rw [f 0 rfl]
  · show I' 16 _ _ = I 16 _ _; rw [f 16 rfl]
  · show I' 17 _ _ = I 17 _ _; rw [f 17 rfl]
  · obtain ⟨id, c1, c2, c3, c4, c5, c6, c7⟩ := b2 t ht
    exact ⟨id, c1, c2, by rw [f 6 rfl]; exact c3, by rw [f 6 rfl]; exact c4, c5, c6, by rw [f 27 rfl]; exact c7⟩
theorem RC_F {I I' : Im} {X : am_Z} {s : St} (h : RC I X s) (f : FrM I I') : RC I' X s := by
  obtain ⟨h1, hi, hr, hs, hw, htp, hk', hid⟩ := h
  refine ⟨CeC_M h1 f, ?_, fun k hk => ?_, fun k hk => ?_, ?_, ?_, ?_, hid⟩
  · show ImC I' X s.2.1
    rcases e : s.2.1 with _ | ei
    · rw [e] at hi; show I' 7 0 8 = 0; rw [f 7 rfl]; exact hi
    · rw [e] at hi; exact ⟨by rw [f 7 rfl]; exact hi.1, CeC_M hi.2 f⟩
  · obtain ⟨a, b, c⟩ := hr k hk
    exact ⟨by rw [f 4 rfl]; exact a, by rw [f 4 rfl]; exact b, by rw [f 25 rfl]; exact c⟩
  · obtain ⟨a, b, c, d⟩ := hs k hk
    exact ⟨by rw [f 5 rfl]; exact a, by rw [f 5 rfl]; exact b, by rw [f 4 rfl, f 25 rfl]; exact c, by rw [f 5 rfl]; exact d⟩
  · exact ⟨by rw [f 7 rfl]; exact hw.1, by rw [f 26 rfl]; exact hw.2⟩
  · exact ⟨by rw [f 3 rfl]; exact htp.1, by rw [f 23 rfl]; exact htp.2⟩
  · exact ⟨by rw [f 20 rfl]; exact hk'.1, by rw [f 21 rfl]; exact hk'.2.1, by rw [f 22 rfl]; exact hk'.2.2⟩
/-- what holds between two calls -/
def LwH (I : Im) (X : am_Z) (s : St) : Prop := RC I X s ∧ RM I s ∧ GG s
def LwF (X X' : am_Z) : Prop := X'.2.2.2.2.1 = X.2.2.2.2.1 ∧ X'.2.2.2.2.2.1 ≤ X.2.2.2.2.2.1 + 3 ∧ X'.2.2.2.2.2.2 ≤ X.2.2.2.2.2.2 + 300
theorem LwF_r {X} : LwF X X := ⟨rfl, by omega, by omega⟩
set_option maxRecDepth 100000 in
set_option maxHeartbeats 4000000 in
theorem lw_bottle {I : Im} {X : am_Z} {s : St} {i L d : Nat} {fs : List am_F} {Q : Option am_V → am_M → Prop} (H : LwH I X s) (hL : X.2.2.2.2.1 = L) (hi : i + 6 ≤ L) (hL2 : L ≤ 3072) (K : ∀ (I' : Im) (X' : am_Z) (s' : St), LwH I' X' s' → LwF X X' → am_WP ((mL_law, 1676, [some (.inr (.inr (some (96, 0)))), some (.inr (.inr (some (7, 0)))), some (.inr (.inr (some (8, 0)))), some (.inl (nI i))], []) :: fs) (d + 701) (mk I' X') Q) : am_WP ((mL_law, 224, [some (.inr (.inr (some (96, 0)))), some (.inr (.inr (some (7, 0)))), some (.inr (.inr (some (8, 0)))), some (.inl (nI i))], []) :: fs) (d + 701) (mk I X) Q := by
  have e1 : (nI i + 1).toNatClampNeg = i + 1 := ix_cl (nI_addE rfl (rfl : (1 : Int32) = nI 1)) (by omega)
  have e2 : (nI i + 2).toNatClampNeg = i + 2 := ix_cl (nI_addE rfl (rfl : (2 : Int32) = nI 2)) (by omega)
  have e3 : (nI i + 3).toNatClampNeg = i + 3 := ix_cl (nI_addE rfl (rfl : (3 : Int32) = nI 3)) (by omega)
  refine am_go 400 ?_
  refine am_f (ix_in (n := i + 1) (N := X.2.2.2.2.1) (nI_addE rfl (rfl : (1 : Int32) = nI 1)) (by omega) (by omega)) ?_
  refine am_f (ix_in (n := i + 2) (N := X.2.2.2.2.1) (nI_addE rfl (rfl : (2 : Int32) = nI 2)) (by omega) (by omega)) ?_
  refine am_f (ix_in (n := i + 3) (N := X.2.2.2.2.1) (nI_addE rfl (rfl : (3 : Int32) = nI 3)) (by omega) (by omega)) ?_
  refine (Sp_as (as' := [.inr (.inr (some (7, 0))), .inl (I 96 0 (i + 1)), .inl (I 96 0 (i + 2)), .inl (I 96 0 (i + 3))]) ?_ (p_X7_bottle (d := d + 698) H.1 H.2.2.1 (I 96 0 (i + 1)) (I 96 0 (i + 2)) (I 96 0 (i + 3)))) _ _ _ ?_
  · show ([.inr (.inr (some (7, 0))), .inl (I 96 0 (nI i + 1).toNatClampNeg), .inl (I 96 0 (nI i + 2).toNatClampNeg), .inl (I 96 0 (nI i + 3).toNatClampNeg)] : List am_V) = [.inr (.inr (some (7, 0))), .inl (I 96 0 (i + 1)), .inl (I 96 0 (i + 2)), .inl (I 96 0 (i + 3))]
    rw [e1, e2, e3]
  · rintro v I1 X1 ⟨rfl, hR1, hF1⟩
    have f96 : I1 96 = I 96 := hF1.1 96 rfl
    have fL := hF1.2.1
    refine am_go 400 ?_
    refine am_f (ix_in (n := i + 1) (N := X1.2.2.2.2.1) (nI_addE rfl (rfl : (1 : Int32) = nI 1)) (by omega) (by omega)) ?_
    refine am_f (ix_in (n := i + 2) (N := X1.2.2.2.2.1) (nI_addE rfl (rfl : (2 : Int32) = nI 2)) (by omega) (by omega)) ?_
    refine am_f (ix_in (n := i + 3) (N := X1.2.2.2.2.1) (nI_addE rfl (rfl : (3 : Int32) = nI 3)) (by omega) (by omega)) ?_
    refine (Sp_as (as' := [.inr (.inr (some (8, 0))), .inl (I 96 0 (i + 1)), .inl (I 96 0 (i + 2)), .inl (I 96 0 (i + 3))]) ?_ (p_X8_bottle (d := d + 698) (RM_F H.2.1 hF1) H.2.2.1 (I 96 0 (i + 1)) (I 96 0 (i + 2)) (I 96 0 (i + 3)))) _ _ _ ?_
    · show ([.inr (.inr (some (8, 0))), .inl (I1 96 0 (nI i + 1).toNatClampNeg), .inl (I1 96 0 (nI i + 2).toNatClampNeg), .inl (I1 96 0 (nI i + 3).toNatClampNeg)] : List am_V) = [.inr (.inr (some (8, 0))), .inl (I 96 0 (i + 1)), .inl (I 96 0 (i + 2)), .inl (I 96 0 (i + 3))]
      rw [f96, e1, e2, e3]
    · rintro v2 I2 X2 ⟨rfl, hM2, hF2, rfl⟩
      refine am_go 400 ?_
      refine am_t rfl ?_
      refine am_cf rfl ?_
      refine am_cut ?_
      exact K I2 _ _ ⟨RC_F hR1 hF2, hM2, g_bottle H.2.2 (I 96 0 (i + 1)) (I 96 0 (i + 2)) (I 96 0 (i + 3))⟩ ⟨hF1.2.1, hF1.2.2.1, hF1.2.2.2⟩
set_option maxRecDepth 100000 in
set_option maxHeartbeats 4000000 in
theorem lw_told {I : Im} {X : am_Z} {s : St} {i L d : Nat} {fs : List am_F} {Q : Option am_V → am_M → Prop} (H : LwH I X s) (hL : X.2.2.2.2.1 = L) (hi : i + 6 ≤ L) (hL2 : L ≤ 3072) (K : ∀ (I' : Im) (X' : am_Z) (s' : St), LwH I' X' s' → LwF X X' → am_WP ((mL_law, 1676, [some (.inr (.inr (some (96, 0)))), some (.inr (.inr (some (7, 0)))), some (.inr (.inr (some (8, 0)))), some (.inl (nI i))], []) :: fs) (d + 701) (mk I' X') Q) : am_WP ((mL_law, 267, [some (.inr (.inr (some (96, 0)))), some (.inr (.inr (some (7, 0)))), some (.inr (.inr (some (8, 0)))), some (.inl (nI i))], []) :: fs) (d + 701) (mk I X) Q := by
  have e1 : (nI i + 1).toNatClampNeg = i + 1 := ix_cl (nI_addE rfl (rfl : (1 : Int32) = nI 1)) (by omega)
  have e2 : (nI i + 2).toNatClampNeg = i + 2 := ix_cl (nI_addE rfl (rfl : (2 : Int32) = nI 2)) (by omega)
  refine am_go 400 ?_
  refine am_f (ix_in (n := i + 1) (N := X.2.2.2.2.1) (nI_addE rfl (rfl : (1 : Int32) = nI 1)) (by omega) (by omega)) ?_
  refine am_f (ix_in (n := i + 2) (N := X.2.2.2.2.1) (nI_addE rfl (rfl : (2 : Int32) = nI 2)) (by omega) (by omega)) ?_
  refine (Sp_as (as' := [.inr (.inr (some (7, 0))), .inl (I 96 0 (i + 1)), .inl (I 96 0 (i + 2))]) ?_ (p_X7_told (d := d + 698) H.1 H.2.2.1 (I 96 0 (i + 1)) (I 96 0 (i + 2)))) _ _ _ ?_
  · show ([.inr (.inr (some (7, 0))), .inl (I 96 0 (nI i + 1).toNatClampNeg), .inl (I 96 0 (nI i + 2).toNatClampNeg)] : List am_V) = [.inr (.inr (some (7, 0))), .inl (I 96 0 (i + 1)), .inl (I 96 0 (i + 2))]
    rw [e1, e2]
  · rintro v I1 X1 ⟨rfl, hR1, hF1⟩
    have f96 : I1 96 = I 96 := hF1.1 96 rfl
    have fL := hF1.2.1
    refine am_go 400 ?_
    refine am_f (ix_in (n := i + 1) (N := X1.2.2.2.2.1) (nI_addE rfl (rfl : (1 : Int32) = nI 1)) (by omega) (by omega)) ?_
    refine am_f (ix_in (n := i + 2) (N := X1.2.2.2.2.1) (nI_addE rfl (rfl : (2 : Int32) = nI 2)) (by omega) (by omega)) ?_
    refine (Sp_as (as' := [.inr (.inr (some (8, 0))), .inl (I 96 0 (i + 1)), .inl (I 96 0 (i + 2))]) ?_ (p_X8_told (d := d + 696) (RM_F H.2.1 hF1) H.2.2.1 (I 96 0 (i + 1)) (I 96 0 (i + 2)))) _ _ _ ?_
    · show ([.inr (.inr (some (8, 0))), .inl (I1 96 0 (nI i + 1).toNatClampNeg), .inl (I1 96 0 (nI i + 2).toNatClampNeg)] : List am_V) = [.inr (.inr (some (8, 0))), .inl (I 96 0 (i + 1)), .inl (I 96 0 (i + 2))]
      rw [f96, e1, e2]
    · rintro v2 I2 X2 ⟨rfl, hM2, hF2, rfl⟩
      refine am_go 400 ?_
      refine am_t rfl ?_
      refine am_cf rfl ?_
      refine am_cut ?_
      exact K I2 _ _ ⟨RC_F hR1 hF2, hM2, g_told H.2.2 (I 96 0 (i + 1)) (I 96 0 (i + 2))⟩ ⟨hF1.2.1, hF1.2.2.1, hF1.2.2.2⟩
set_option maxRecDepth 100000 in
set_option maxHeartbeats 4000000 in
theorem lw_layer {I : Im} {X : am_Z} {s : St} {i L d : Nat} {fs : List am_F} {Q : Option am_V → am_M → Prop} (H : LwH I X s) (hL : X.2.2.2.2.1 = L) (hi : i + 6 ≤ L) (hL2 : L ≤ 3072) (K : ∀ (I' : Im) (X' : am_Z) (s' : St), LwH I' X' s' → LwF X X' → am_WP ((mL_law, 1676, [some (.inr (.inr (some (96, 0)))), some (.inr (.inr (some (7, 0)))), some (.inr (.inr (some (8, 0)))), some (.inl (nI i))], []) :: fs) (d + 701) (mk I' X') Q) : am_WP ((mL_law, 300, [some (.inr (.inr (some (96, 0)))), some (.inr (.inr (some (7, 0)))), some (.inr (.inr (some (8, 0)))), some (.inl (nI i))], []) :: fs) (d + 701) (mk I X) Q := by
  have e1 : (nI i + 1).toNatClampNeg = i + 1 := ix_cl (nI_addE rfl (rfl : (1 : Int32) = nI 1)) (by omega)
  have e2 : (nI i + 2).toNatClampNeg = i + 2 := ix_cl (nI_addE rfl (rfl : (2 : Int32) = nI 2)) (by omega)
  have e3 : (nI i + 3).toNatClampNeg = i + 3 := ix_cl (nI_addE rfl (rfl : (3 : Int32) = nI 3)) (by omega)
  refine am_go 400 ?_
  refine am_f (ix_in (n := i + 1) (N := X.2.2.2.2.1) (nI_addE rfl (rfl : (1 : Int32) = nI 1)) (by omega) (by omega)) ?_
  refine am_f (ix_in (n := i + 2) (N := X.2.2.2.2.1) (nI_addE rfl (rfl : (2 : Int32) = nI 2)) (by omega) (by omega)) ?_
  refine am_f (ix_in (n := i + 3) (N := X.2.2.2.2.1) (nI_addE rfl (rfl : (3 : Int32) = nI 3)) (by omega) (by omega)) ?_
  refine (Sp_as (as' := [.inr (.inr (some (7, 0))), .inl (I 96 0 (i + 1)), .inl (I 96 0 (i + 2)), .inl (I 96 0 (i + 3))]) ?_ (p_X7_layer (d := d + 696) H.1 H.2.2.1 (I 96 0 (i + 1)) (I 96 0 (i + 2)) (I 96 0 (i + 3)))) _ _ _ ?_
  · show ([.inr (.inr (some (7, 0))), .inl (I 96 0 (nI i + 1).toNatClampNeg), .inl (I 96 0 (nI i + 2).toNatClampNeg), .inl (I 96 0 (nI i + 3).toNatClampNeg)] : List am_V) = [.inr (.inr (some (7, 0))), .inl (I 96 0 (i + 1)), .inl (I 96 0 (i + 2)), .inl (I 96 0 (i + 3))]
    rw [e1, e2, e3]
  · rintro v I1 X1 ⟨rfl, hR1, hF1⟩
    have f96 : I1 96 = I 96 := hF1.1 96 rfl
    have fL := hF1.2.1
    refine am_go 400 ?_
    refine am_f (ix_in (n := i + 1) (N := X1.2.2.2.2.1) (nI_addE rfl (rfl : (1 : Int32) = nI 1)) (by omega) (by omega)) ?_
    refine am_f (ix_in (n := i + 2) (N := X1.2.2.2.2.1) (nI_addE rfl (rfl : (2 : Int32) = nI 2)) (by omega) (by omega)) ?_
    refine am_f (ix_in (n := i + 3) (N := X1.2.2.2.2.1) (nI_addE rfl (rfl : (3 : Int32) = nI 3)) (by omega) (by omega)) ?_
    refine (Sp_as (as' := [.inr (.inr (some (8, 0))), .inl (I 96 0 (i + 1)), .inl (I 96 0 (i + 2)), .inl (I 96 0 (i + 3))]) ?_ (p_X8_layer (d := d + 697) (RM_F H.2.1 hF1) H.2.2.1 (I 96 0 (i + 1)) (I 96 0 (i + 2)) (I 96 0 (i + 3)))) _ _ _ ?_
    · show ([.inr (.inr (some (8, 0))), .inl (I1 96 0 (nI i + 1).toNatClampNeg), .inl (I1 96 0 (nI i + 2).toNatClampNeg), .inl (I1 96 0 (nI i + 3).toNatClampNeg)] : List am_V) = [.inr (.inr (some (8, 0))), .inl (I 96 0 (i + 1)), .inl (I 96 0 (i + 2)), .inl (I 96 0 (i + 3))]
      rw [f96, e1, e2, e3]
    · rintro v2 I2 X2 ⟨rfl, hM2, hF2, rfl⟩
      refine am_go 400 ?_
      refine am_t rfl ?_
      refine am_cf rfl ?_
      refine am_cut ?_
      exact K I2 _ _ ⟨RC_F hR1 hF2, hM2, g_layer H.2.2 (I 96 0 (i + 1)) (I 96 0 (i + 2)) (I 96 0 (i + 3))⟩ ⟨hF1.2.1, hF1.2.2.1, hF1.2.2.2⟩
set_option maxRecDepth 100000 in
set_option maxHeartbeats 4000000 in
theorem lw_sets {I : Im} {X : am_Z} {s : St} {i L d : Nat} {fs : List am_F} {Q : Option am_V → am_M → Prop} (H : LwH I X s) (hL : X.2.2.2.2.1 = L) (hi : i + 6 ≤ L) (hL2 : L ≤ 3072) (K : ∀ (I' : Im) (X' : am_Z) (s' : St), LwH I' X' s' → LwF X X' → am_WP ((mL_law, 1676, [some (.inr (.inr (some (96, 0)))), some (.inr (.inr (some (7, 0)))), some (.inr (.inr (some (8, 0)))), some (.inl (nI i))], []) :: fs) (d + 701) (mk I' X') Q) : am_WP ((mL_law, 343, [some (.inr (.inr (some (96, 0)))), some (.inr (.inr (some (7, 0)))), some (.inr (.inr (some (8, 0)))), some (.inl (nI i))], []) :: fs) (d + 701) (mk I X) Q := by
  have e1 : (nI i + 1).toNatClampNeg = i + 1 := ix_cl (nI_addE rfl (rfl : (1 : Int32) = nI 1)) (by omega)
  have e2 : (nI i + 2).toNatClampNeg = i + 2 := ix_cl (nI_addE rfl (rfl : (2 : Int32) = nI 2)) (by omega)
  have e3 : (nI i + 3).toNatClampNeg = i + 3 := ix_cl (nI_addE rfl (rfl : (3 : Int32) = nI 3)) (by omega)
  have e4 : (nI i + 4).toNatClampNeg = i + 4 := ix_cl (nI_addE rfl (rfl : (4 : Int32) = nI 4)) (by omega)
  refine am_go 400 ?_
  refine am_f (ix_in (n := i + 1) (N := X.2.2.2.2.1) (nI_addE rfl (rfl : (1 : Int32) = nI 1)) (by omega) (by omega)) ?_
  refine am_f (ix_in (n := i + 2) (N := X.2.2.2.2.1) (nI_addE rfl (rfl : (2 : Int32) = nI 2)) (by omega) (by omega)) ?_
  refine am_f (ix_in (n := i + 3) (N := X.2.2.2.2.1) (nI_addE rfl (rfl : (3 : Int32) = nI 3)) (by omega) (by omega)) ?_
  refine am_f (ix_in (n := i + 4) (N := X.2.2.2.2.1) (nI_addE rfl (rfl : (4 : Int32) = nI 4)) (by omega) (by omega)) ?_
  refine (Sp_as (as' := [.inr (.inr (some (7, 0))), .inl (I 96 0 (i + 1)), .inl (I 96 0 (i + 2)), .inl (I 96 0 (i + 3)), .inl (I 96 0 (i + 4))]) ?_ (p_X7_sets (d := d + 698) H.1 H.2.2.1 (I 96 0 (i + 1)) (I 96 0 (i + 2)) (I 96 0 (i + 3)) (I 96 0 (i + 4)))) _ _ _ ?_
  · show ([.inr (.inr (some (7, 0))), .inl (I 96 0 (nI i + 1).toNatClampNeg), .inl (I 96 0 (nI i + 2).toNatClampNeg), .inl (I 96 0 (nI i + 3).toNatClampNeg), .inl (I 96 0 (nI i + 4).toNatClampNeg)] : List am_V) = [.inr (.inr (some (7, 0))), .inl (I 96 0 (i + 1)), .inl (I 96 0 (i + 2)), .inl (I 96 0 (i + 3)), .inl (I 96 0 (i + 4))]
    rw [e1, e2, e3, e4]
  · rintro v I1 X1 ⟨rfl, hR1, hF1⟩
    have f96 : I1 96 = I 96 := hF1.1 96 rfl
    have fL := hF1.2.1
    refine am_go 400 ?_
    refine am_f (ix_in (n := i + 1) (N := X1.2.2.2.2.1) (nI_addE rfl (rfl : (1 : Int32) = nI 1)) (by omega) (by omega)) ?_
    refine am_f (ix_in (n := i + 2) (N := X1.2.2.2.2.1) (nI_addE rfl (rfl : (2 : Int32) = nI 2)) (by omega) (by omega)) ?_
    refine am_f (ix_in (n := i + 3) (N := X1.2.2.2.2.1) (nI_addE rfl (rfl : (3 : Int32) = nI 3)) (by omega) (by omega)) ?_
    refine am_f (ix_in (n := i + 4) (N := X1.2.2.2.2.1) (nI_addE rfl (rfl : (4 : Int32) = nI 4)) (by omega) (by omega)) ?_
    refine (Sp_as (as' := [.inr (.inr (some (8, 0))), .inl (I 96 0 (i + 1)), .inl (I 96 0 (i + 2)), .inl (I 96 0 (i + 3)), .inl (I 96 0 (i + 4))]) ?_ (p_X8_sets (d := d + 698) (RM_F H.2.1 hF1) H.2.2.1 (I 96 0 (i + 1)) (I 96 0 (i + 2)) (I 96 0 (i + 3)) (I 96 0 (i + 4)))) _ _ _ ?_
    · show ([.inr (.inr (some (8, 0))), .inl (I1 96 0 (nI i + 1).toNatClampNeg), .inl (I1 96 0 (nI i + 2).toNatClampNeg), .inl (I1 96 0 (nI i + 3).toNatClampNeg), .inl (I1 96 0 (nI i + 4).toNatClampNeg)] : List am_V) = [.inr (.inr (some (8, 0))), .inl (I 96 0 (i + 1)), .inl (I 96 0 (i + 2)), .inl (I 96 0 (i + 3)), .inl (I 96 0 (i + 4))]
      rw [f96, e1, e2, e3, e4]
    · rintro v2 I2 X2 ⟨rfl, hM2, hF2, rfl⟩
      refine am_go 400 ?_
      refine am_t rfl ?_
      refine am_cf rfl ?_
      refine am_cut ?_
      exact K I2 _ _ ⟨RC_F hR1 hF2, hM2, g_sets H.2.2 (I 96 0 (i + 1)) (I 96 0 (i + 2)) (I 96 0 (i + 3)) (I 96 0 (i + 4))⟩ ⟨hF1.2.1, hF1.2.2.1, hF1.2.2.2⟩
set_option maxRecDepth 100000 in
set_option maxHeartbeats 4000000 in
theorem lw_as {I : Im} {X : am_Z} {s : St} {i L d : Nat} {fs : List am_F} {Q : Option am_V → am_M → Prop} (H : LwH I X s) (hL : X.2.2.2.2.1 = L) (hi : i + 6 ≤ L) (hL2 : L ≤ 3072) (K : ∀ (I' : Im) (X' : am_Z) (s' : St), LwH I' X' s' → LwF X X' → am_WP ((mL_law, 1676, [some (.inr (.inr (some (96, 0)))), some (.inr (.inr (some (7, 0)))), some (.inr (.inr (some (8, 0)))), some (.inl (nI i))], []) :: fs) (d + 701) (mk I' X') Q) : am_WP ((mL_law, 396, [some (.inr (.inr (some (96, 0)))), some (.inr (.inr (some (7, 0)))), some (.inr (.inr (some (8, 0)))), some (.inl (nI i))], []) :: fs) (d + 701) (mk I X) Q := by
  have e1 : (nI i + 1).toNatClampNeg = i + 1 := ix_cl (nI_addE rfl (rfl : (1 : Int32) = nI 1)) (by omega)
  have e2 : (nI i + 2).toNatClampNeg = i + 2 := ix_cl (nI_addE rfl (rfl : (2 : Int32) = nI 2)) (by omega)
  refine am_go 400 ?_
  refine am_f (ix_in (n := i + 1) (N := X.2.2.2.2.1) (nI_addE rfl (rfl : (1 : Int32) = nI 1)) (by omega) (by omega)) ?_
  refine am_f (ix_in (n := i + 2) (N := X.2.2.2.2.1) (nI_addE rfl (rfl : (2 : Int32) = nI 2)) (by omega) (by omega)) ?_
  refine (Sp_as (as' := [.inr (.inr (some (7, 0))), .inl (I 96 0 (i + 1)), .inl (I 96 0 (i + 2))]) ?_ (p_X7_as (d := d + 697) H.1 H.2.2.1 (I 96 0 (i + 1)) (I 96 0 (i + 2)))) _ _ _ ?_
  · show ([.inr (.inr (some (7, 0))), .inl (I 96 0 (nI i + 1).toNatClampNeg), .inl (I 96 0 (nI i + 2).toNatClampNeg)] : List am_V) = [.inr (.inr (some (7, 0))), .inl (I 96 0 (i + 1)), .inl (I 96 0 (i + 2))]
    rw [e1, e2]
  · rintro v I1 X1 ⟨rfl, hR1, hF1⟩
    have f96 : I1 96 = I 96 := hF1.1 96 rfl
    have fL := hF1.2.1
    refine am_go 400 ?_
    refine am_f (ix_in (n := i + 1) (N := X1.2.2.2.2.1) (nI_addE rfl (rfl : (1 : Int32) = nI 1)) (by omega) (by omega)) ?_
    refine am_f (ix_in (n := i + 2) (N := X1.2.2.2.2.1) (nI_addE rfl (rfl : (2 : Int32) = nI 2)) (by omega) (by omega)) ?_
    refine (Sp_as (as' := [.inr (.inr (some (8, 0))), .inl (I 96 0 (i + 1)), .inl (I 96 0 (i + 2))]) ?_ (p_X8_as (d := d + 698) (RM_F H.2.1 hF1) H.2.2.1 (I 96 0 (i + 1)) (I 96 0 (i + 2)))) _ _ _ ?_
    · show ([.inr (.inr (some (8, 0))), .inl (I1 96 0 (nI i + 1).toNatClampNeg), .inl (I1 96 0 (nI i + 2).toNatClampNeg)] : List am_V) = [.inr (.inr (some (8, 0))), .inl (I 96 0 (i + 1)), .inl (I 96 0 (i + 2))]
      rw [f96, e1, e2]
    · rintro v2 I2 X2 ⟨rfl, hM2, hF2, rfl⟩
      refine am_go 400 ?_
      refine am_t rfl ?_
      refine am_cf rfl ?_
      refine am_cut ?_
      exact K I2 _ _ ⟨RC_F hR1 hF2, hM2, g_as H.2.2 (I 96 0 (i + 1)) (I 96 0 (i + 2))⟩ ⟨hF1.2.1, hF1.2.2.1, hF1.2.2.2⟩
set_option maxRecDepth 100000 in
set_option maxHeartbeats 4000000 in
theorem lw_turns {I : Im} {X : am_Z} {s : St} {i L d : Nat} {fs : List am_F} {Q : Option am_V → am_M → Prop} (H : LwH I X s) (hL : X.2.2.2.2.1 = L) (hi : i + 6 ≤ L) (hL2 : L ≤ 3072) (K : ∀ (I' : Im) (X' : am_Z) (s' : St), LwH I' X' s' → LwF X X' → am_WP ((mL_law, 1676, [some (.inr (.inr (some (96, 0)))), some (.inr (.inr (some (7, 0)))), some (.inr (.inr (some (8, 0)))), some (.inl (nI i))], []) :: fs) (d + 701) (mk I' X') Q) : am_WP ((mL_law, 429, [some (.inr (.inr (some (96, 0)))), some (.inr (.inr (some (7, 0)))), some (.inr (.inr (some (8, 0)))), some (.inl (nI i))], []) :: fs) (d + 701) (mk I X) Q := by
  have e1 : (nI i + 1).toNatClampNeg = i + 1 := ix_cl (nI_addE rfl (rfl : (1 : Int32) = nI 1)) (by omega)
  have e2 : (nI i + 2).toNatClampNeg = i + 2 := ix_cl (nI_addE rfl (rfl : (2 : Int32) = nI 2)) (by omega)
  refine am_go 400 ?_
  refine am_f (ix_in (n := i + 1) (N := X.2.2.2.2.1) (nI_addE rfl (rfl : (1 : Int32) = nI 1)) (by omega) (by omega)) ?_
  refine am_f (ix_in (n := i + 2) (N := X.2.2.2.2.1) (nI_addE rfl (rfl : (2 : Int32) = nI 2)) (by omega) (by omega)) ?_
  refine (Sp_as (as' := [.inr (.inr (some (7, 0))), .inl (I 96 0 (i + 1)), .inl (I 96 0 (i + 2))]) ?_ (p_X7_turns (d := d + 698) H.1 H.2.2.1 (I 96 0 (i + 1)) (I 96 0 (i + 2)))) _ _ _ ?_
  · show ([.inr (.inr (some (7, 0))), .inl (I 96 0 (nI i + 1).toNatClampNeg), .inl (I 96 0 (nI i + 2).toNatClampNeg)] : List am_V) = [.inr (.inr (some (7, 0))), .inl (I 96 0 (i + 1)), .inl (I 96 0 (i + 2))]
    rw [e1, e2]
  · rintro v I1 X1 ⟨rfl, hR1, hF1⟩
    have f96 : I1 96 = I 96 := hF1.1 96 rfl
    have fL := hF1.2.1
    refine am_go 400 ?_
    refine am_f (ix_in (n := i + 1) (N := X1.2.2.2.2.1) (nI_addE rfl (rfl : (1 : Int32) = nI 1)) (by omega) (by omega)) ?_
    refine am_f (ix_in (n := i + 2) (N := X1.2.2.2.2.1) (nI_addE rfl (rfl : (2 : Int32) = nI 2)) (by omega) (by omega)) ?_
    refine (Sp_as (as' := [.inr (.inr (some (8, 0))), .inl (I 96 0 (i + 1)), .inl (I 96 0 (i + 2))]) ?_ (p_X8_turns (d := d + 698) (RM_F H.2.1 hF1) H.2.2.1 (I 96 0 (i + 1)) (I 96 0 (i + 2)))) _ _ _ ?_
    · show ([.inr (.inr (some (8, 0))), .inl (I1 96 0 (nI i + 1).toNatClampNeg), .inl (I1 96 0 (nI i + 2).toNatClampNeg)] : List am_V) = [.inr (.inr (some (8, 0))), .inl (I 96 0 (i + 1)), .inl (I 96 0 (i + 2))]
      rw [f96, e1, e2]
    · rintro v2 I2 X2 ⟨rfl, hM2, hF2, rfl⟩
      refine am_go 400 ?_
      refine am_t rfl ?_
      refine am_cf rfl ?_
      refine am_cut ?_
      exact K I2 _ _ ⟨RC_F hR1 hF2, hM2, g_turns H.2.2 (I 96 0 (i + 1)) (I 96 0 (i + 2))⟩ ⟨hF1.2.1, hF1.2.2.1, hF1.2.2.2⟩
set_option maxRecDepth 100000 in
set_option maxHeartbeats 4000000 in
theorem lw_set {I : Im} {X : am_Z} {s : St} {i L d : Nat} {fs : List am_F} {Q : Option am_V → am_M → Prop} (H : LwH I X s) (hL : X.2.2.2.2.1 = L) (hi : i + 6 ≤ L) (hL2 : L ≤ 3072) (K : ∀ (I' : Im) (X' : am_Z) (s' : St), LwH I' X' s' → LwF X X' → am_WP ((mL_law, 1676, [some (.inr (.inr (some (96, 0)))), some (.inr (.inr (some (7, 0)))), some (.inr (.inr (some (8, 0)))), some (.inl (nI i))], []) :: fs) (d + 701) (mk I' X') Q) : am_WP ((mL_law, 462, [some (.inr (.inr (some (96, 0)))), some (.inr (.inr (some (7, 0)))), some (.inr (.inr (some (8, 0)))), some (.inl (nI i))], []) :: fs) (d + 701) (mk I X) Q := by
  have e1 : (nI i + 1).toNatClampNeg = i + 1 := ix_cl (nI_addE rfl (rfl : (1 : Int32) = nI 1)) (by omega)
  have e2 : (nI i + 2).toNatClampNeg = i + 2 := ix_cl (nI_addE rfl (rfl : (2 : Int32) = nI 2)) (by omega)
  have e3 : (nI i + 3).toNatClampNeg = i + 3 := ix_cl (nI_addE rfl (rfl : (3 : Int32) = nI 3)) (by omega)
  refine am_go 400 ?_
  refine am_f (ix_in (n := i + 1) (N := X.2.2.2.2.1) (nI_addE rfl (rfl : (1 : Int32) = nI 1)) (by omega) (by omega)) ?_
  refine am_f (ix_in (n := i + 2) (N := X.2.2.2.2.1) (nI_addE rfl (rfl : (2 : Int32) = nI 2)) (by omega) (by omega)) ?_
  refine am_f (ix_in (n := i + 3) (N := X.2.2.2.2.1) (nI_addE rfl (rfl : (3 : Int32) = nI 3)) (by omega) (by omega)) ?_
  refine (Sp_as (as' := [.inr (.inr (some (7, 0))), .inl (I 96 0 (i + 1)), .inl (I 96 0 (i + 2)), .inl (I 96 0 (i + 3))]) ?_ (p_X7_set (d := d + 698) H.1 H.2.2.1 (I 96 0 (i + 1)) (I 96 0 (i + 2)) (I 96 0 (i + 3)))) _ _ _ ?_
  · show ([.inr (.inr (some (7, 0))), .inl (I 96 0 (nI i + 1).toNatClampNeg), .inl (I 96 0 (nI i + 2).toNatClampNeg), .inl (I 96 0 (nI i + 3).toNatClampNeg)] : List am_V) = [.inr (.inr (some (7, 0))), .inl (I 96 0 (i + 1)), .inl (I 96 0 (i + 2)), .inl (I 96 0 (i + 3))]
    rw [e1, e2, e3]
  · rintro v I1 X1 ⟨rfl, hR1, hF1⟩
    have f96 : I1 96 = I 96 := hF1.1 96 rfl
    have fL := hF1.2.1
    refine am_go 400 ?_
    refine am_f (ix_in (n := i + 1) (N := X1.2.2.2.2.1) (nI_addE rfl (rfl : (1 : Int32) = nI 1)) (by omega) (by omega)) ?_
    refine am_f (ix_in (n := i + 2) (N := X1.2.2.2.2.1) (nI_addE rfl (rfl : (2 : Int32) = nI 2)) (by omega) (by omega)) ?_
    refine am_f (ix_in (n := i + 3) (N := X1.2.2.2.2.1) (nI_addE rfl (rfl : (3 : Int32) = nI 3)) (by omega) (by omega)) ?_
    refine (Sp_as (as' := [.inr (.inr (some (8, 0))), .inl (I 96 0 (i + 1)), .inl (I 96 0 (i + 2)), .inl (I 96 0 (i + 3))]) ?_ (p_X8_set (d := d + 698) (RM_F H.2.1 hF1) H.2.2.1 (I 96 0 (i + 1)) (I 96 0 (i + 2)) (I 96 0 (i + 3)))) _ _ _ ?_
    · show ([.inr (.inr (some (8, 0))), .inl (I1 96 0 (nI i + 1).toNatClampNeg), .inl (I1 96 0 (nI i + 2).toNatClampNeg), .inl (I1 96 0 (nI i + 3).toNatClampNeg)] : List am_V) = [.inr (.inr (some (8, 0))), .inl (I 96 0 (i + 1)), .inl (I 96 0 (i + 2)), .inl (I 96 0 (i + 3))]
      rw [f96, e1, e2, e3]
    · rintro v2 I2 X2 ⟨rfl, hM2, hF2, rfl⟩
      refine am_go 400 ?_
      refine am_t rfl ?_
      refine am_cf rfl ?_
      refine am_cut ?_
      exact K I2 _ _ ⟨RC_F hR1 hF2, hM2, g_set H.2.2 (I 96 0 (i + 1)) (I 96 0 (i + 2)) (I 96 0 (i + 3))⟩ ⟨hF1.2.1, hF1.2.2.1, hF1.2.2.2⟩
set_option maxRecDepth 100000 in
set_option maxHeartbeats 4000000 in
theorem lw_pull {I : Im} {X : am_Z} {s : St} {i L d : Nat} {fs : List am_F} {Q : Option am_V → am_M → Prop} (H : LwH I X s) (hL : X.2.2.2.2.1 = L) (hi : i + 6 ≤ L) (hL2 : L ≤ 3072) (K : ∀ (I' : Im) (X' : am_Z) (s' : St), LwH I' X' s' → LwF X X' → am_WP ((mL_law, 1676, [some (.inr (.inr (some (96, 0)))), some (.inr (.inr (some (7, 0)))), some (.inr (.inr (some (8, 0)))), some (.inl (nI i))], []) :: fs) (d + 701) (mk I' X') Q) : am_WP ((mL_law, 505, [some (.inr (.inr (some (96, 0)))), some (.inr (.inr (some (7, 0)))), some (.inr (.inr (some (8, 0)))), some (.inl (nI i))], []) :: fs) (d + 701) (mk I X) Q := by
  have e1 : (nI i + 1).toNatClampNeg = i + 1 := ix_cl (nI_addE rfl (rfl : (1 : Int32) = nI 1)) (by omega)
  have e2 : (nI i + 2).toNatClampNeg = i + 2 := ix_cl (nI_addE rfl (rfl : (2 : Int32) = nI 2)) (by omega)
  have e3 : (nI i + 3).toNatClampNeg = i + 3 := ix_cl (nI_addE rfl (rfl : (3 : Int32) = nI 3)) (by omega)
  refine am_go 400 ?_
  refine am_f (ix_in (n := i + 1) (N := X.2.2.2.2.1) (nI_addE rfl (rfl : (1 : Int32) = nI 1)) (by omega) (by omega)) ?_
  refine am_f (ix_in (n := i + 2) (N := X.2.2.2.2.1) (nI_addE rfl (rfl : (2 : Int32) = nI 2)) (by omega) (by omega)) ?_
  refine am_f (ix_in (n := i + 3) (N := X.2.2.2.2.1) (nI_addE rfl (rfl : (3 : Int32) = nI 3)) (by omega) (by omega)) ?_
  refine (Sp_as (as' := [.inr (.inr (some (7, 0))), .inl (I 96 0 (i + 1)), .inl (I 96 0 (i + 2)), .inl (I 96 0 (i + 3))]) ?_ (p_X7_pull (d := d + 695) H.1 H.2.2.1 (I 96 0 (i + 1)) (I 96 0 (i + 2)) (I 96 0 (i + 3)))) _ _ _ ?_
  · show ([.inr (.inr (some (7, 0))), .inl (I 96 0 (nI i + 1).toNatClampNeg), .inl (I 96 0 (nI i + 2).toNatClampNeg), .inl (I 96 0 (nI i + 3).toNatClampNeg)] : List am_V) = [.inr (.inr (some (7, 0))), .inl (I 96 0 (i + 1)), .inl (I 96 0 (i + 2)), .inl (I 96 0 (i + 3))]
    rw [e1, e2, e3]
  · rintro v I1 X1 ⟨rfl, hR1, hF1⟩
    have f96 : I1 96 = I 96 := hF1.1 96 rfl
    have fL := hF1.2.1
    refine am_go 400 ?_
    refine am_f (ix_in (n := i + 1) (N := X1.2.2.2.2.1) (nI_addE rfl (rfl : (1 : Int32) = nI 1)) (by omega) (by omega)) ?_
    refine am_f (ix_in (n := i + 2) (N := X1.2.2.2.2.1) (nI_addE rfl (rfl : (2 : Int32) = nI 2)) (by omega) (by omega)) ?_
    refine am_f (ix_in (n := i + 3) (N := X1.2.2.2.2.1) (nI_addE rfl (rfl : (3 : Int32) = nI 3)) (by omega) (by omega)) ?_
    refine (Sp_as (as' := [.inr (.inr (some (8, 0))), .inl (I 96 0 (i + 1)), .inl (I 96 0 (i + 2)), .inl (I 96 0 (i + 3))]) ?_ (p_X8_pull (d := d + 696) (RM_F H.2.1 hF1) H.2.2.1 (I 96 0 (i + 1)) (I 96 0 (i + 2)) (I 96 0 (i + 3)))) _ _ _ ?_
    · show ([.inr (.inr (some (8, 0))), .inl (I1 96 0 (nI i + 1).toNatClampNeg), .inl (I1 96 0 (nI i + 2).toNatClampNeg), .inl (I1 96 0 (nI i + 3).toNatClampNeg)] : List am_V) = [.inr (.inr (some (8, 0))), .inl (I 96 0 (i + 1)), .inl (I 96 0 (i + 2)), .inl (I 96 0 (i + 3))]
      rw [f96, e1, e2, e3]
    · rintro v2 I2 X2 ⟨rfl, hM2, hF2, rfl⟩
      refine am_go 400 ?_
      refine am_t rfl ?_
      refine am_cf rfl ?_
      refine am_cut ?_
      exact K I2 _ _ ⟨RC_F hR1 hF2, hM2, g_pull H.2.2 (I 96 0 (i + 1)) (I 96 0 (i + 2)) (I 96 0 (i + 3))⟩ ⟨hF1.2.1, hF1.2.2.1, hF1.2.2.2⟩
set_option maxRecDepth 100000 in
set_option maxHeartbeats 4000000 in
theorem lw_push {I : Im} {X : am_Z} {s : St} {i L d : Nat} {fs : List am_F} {Q : Option am_V → am_M → Prop} (H : LwH I X s) (hL : X.2.2.2.2.1 = L) (hi : i + 6 ≤ L) (hL2 : L ≤ 3072) (K : ∀ (I' : Im) (X' : am_Z) (s' : St), LwH I' X' s' → LwF X X' → am_WP ((mL_law, 1676, [some (.inr (.inr (some (96, 0)))), some (.inr (.inr (some (7, 0)))), some (.inr (.inr (some (8, 0)))), some (.inl (nI i))], []) :: fs) (d + 701) (mk I' X') Q) : am_WP ((mL_law, 548, [some (.inr (.inr (some (96, 0)))), some (.inr (.inr (some (7, 0)))), some (.inr (.inr (some (8, 0)))), some (.inl (nI i))], []) :: fs) (d + 701) (mk I X) Q := by
  have e1 : (nI i + 1).toNatClampNeg = i + 1 := ix_cl (nI_addE rfl (rfl : (1 : Int32) = nI 1)) (by omega)
  refine am_go 400 ?_
  refine am_f (ix_in (n := i + 1) (N := X.2.2.2.2.1) (nI_addE rfl (rfl : (1 : Int32) = nI 1)) (by omega) (by omega)) ?_
  refine (Sp_as (as' := [.inr (.inr (some (7, 0))), .inl (I 96 0 (i + 1))]) ?_ (p_X7_push (d := d + 698) H.1 H.2.2.1 (I 96 0 (i + 1)))) _ _ _ ?_
  · show ([.inr (.inr (some (7, 0))), .inl (I 96 0 (nI i + 1).toNatClampNeg)] : List am_V) = [.inr (.inr (some (7, 0))), .inl (I 96 0 (i + 1))]
    rw [e1]
  · rintro v I1 X1 ⟨rfl, hR1, hF1⟩
    have f96 : I1 96 = I 96 := hF1.1 96 rfl
    have fL := hF1.2.1
    refine am_go 400 ?_
    refine am_f (ix_in (n := i + 1) (N := X1.2.2.2.2.1) (nI_addE rfl (rfl : (1 : Int32) = nI 1)) (by omega) (by omega)) ?_
    refine (Sp_as (as' := [.inr (.inr (some (8, 0))), .inl (I 96 0 (i + 1))]) ?_ (p_X8_push (d := d + 698) (RM_F H.2.1 hF1) H.2.2.1 (I 96 0 (i + 1)))) _ _ _ ?_
    · show ([.inr (.inr (some (8, 0))), .inl (I1 96 0 (nI i + 1).toNatClampNeg)] : List am_V) = [.inr (.inr (some (8, 0))), .inl (I 96 0 (i + 1))]
      rw [f96, e1]
    · rintro v2 I2 X2 ⟨rfl, hM2, hF2, rfl⟩
      refine am_go 400 ?_
      refine am_t rfl ?_
      refine am_cf rfl ?_
      refine am_cut ?_
      exact K I2 _ _ ⟨RC_F hR1 hF2, hM2, g_push H.2.2 (I 96 0 (i + 1))⟩ ⟨hF1.2.1, hF1.2.2.1, hF1.2.2.2⟩
set_option maxRecDepth 100000 in
set_option maxHeartbeats 4000000 in
theorem lw_warm {I : Im} {X : am_Z} {s : St} {i L d : Nat} {fs : List am_F} {Q : Option am_V → am_M → Prop} (H : LwH I X s) (hL : X.2.2.2.2.1 = L) (hi : i + 6 ≤ L) (hL2 : L ≤ 3072) (K : ∀ (I' : Im) (X' : am_Z) (s' : St), LwH I' X' s' → LwF X X' → am_WP ((mL_law, 1676, [some (.inr (.inr (some (96, 0)))), some (.inr (.inr (some (7, 0)))), some (.inr (.inr (some (8, 0)))), some (.inl (nI i))], []) :: fs) (d + 701) (mk I' X') Q) : am_WP ((mL_law, 571, [some (.inr (.inr (some (96, 0)))), some (.inr (.inr (some (7, 0)))), some (.inr (.inr (some (8, 0)))), some (.inl (nI i))], []) :: fs) (d + 701) (mk I X) Q := by
  have e1 : (nI i + 1).toNatClampNeg = i + 1 := ix_cl (nI_addE rfl (rfl : (1 : Int32) = nI 1)) (by omega)
  refine am_go 400 ?_
  refine am_f (ix_in (n := i + 1) (N := X.2.2.2.2.1) (nI_addE rfl (rfl : (1 : Int32) = nI 1)) (by omega) (by omega)) ?_
  refine (Sp_as (as' := [.inr (.inr (some (7, 0))), .inl (I 96 0 (i + 1))]) ?_ (p_X7_warm (d := d + 698) H.1 H.2.2.1 (I 96 0 (i + 1)))) _ _ _ ?_
  · show ([.inr (.inr (some (7, 0))), .inl (I 96 0 (nI i + 1).toNatClampNeg)] : List am_V) = [.inr (.inr (some (7, 0))), .inl (I 96 0 (i + 1))]
    rw [e1]
  · rintro v I1 X1 ⟨rfl, hR1, hF1⟩
    have f96 : I1 96 = I 96 := hF1.1 96 rfl
    have fL := hF1.2.1
    refine am_go 400 ?_
    refine am_f (ix_in (n := i + 1) (N := X1.2.2.2.2.1) (nI_addE rfl (rfl : (1 : Int32) = nI 1)) (by omega) (by omega)) ?_
    refine (Sp_as (as' := [.inr (.inr (some (8, 0))), .inl (I 96 0 (i + 1))]) ?_ (p_X8_warm (d := d + 698) (RM_F H.2.1 hF1) H.2.2.1 (I 96 0 (i + 1)))) _ _ _ ?_
    · show ([.inr (.inr (some (8, 0))), .inl (I1 96 0 (nI i + 1).toNatClampNeg)] : List am_V) = [.inr (.inr (some (8, 0))), .inl (I 96 0 (i + 1))]
      rw [f96, e1]
    · rintro v2 I2 X2 ⟨rfl, hM2, hF2, rfl⟩
      refine am_go 400 ?_
      refine am_t rfl ?_
      refine am_cf rfl ?_
      refine am_cut ?_
      exact K I2 _ _ ⟨RC_F hR1 hF2, hM2, g_warm H.2.2 (I 96 0 (i + 1))⟩ ⟨hF1.2.1, hF1.2.2.1, hF1.2.2.2⟩
set_option maxRecDepth 100000 in
set_option maxHeartbeats 4000000 in
theorem lw_rule {I : Im} {X : am_Z} {s : St} {i L d : Nat} {fs : List am_F} {Q : Option am_V → am_M → Prop} (H : LwH I X s) (hL : X.2.2.2.2.1 = L) (hi : i + 6 ≤ L) (hL2 : L ≤ 3072) (K : ∀ (I' : Im) (X' : am_Z) (s' : St), LwH I' X' s' → LwF X X' → am_WP ((mL_law, 1676, [some (.inr (.inr (some (96, 0)))), some (.inr (.inr (some (7, 0)))), some (.inr (.inr (some (8, 0)))), some (.inl (nI i))], []) :: fs) (d + 701) (mk I' X') Q) : am_WP ((mL_law, 594, [some (.inr (.inr (some (96, 0)))), some (.inr (.inr (some (7, 0)))), some (.inr (.inr (some (8, 0)))), some (.inl (nI i))], []) :: fs) (d + 701) (mk I X) Q := by
  have e1 : (nI i + 1).toNatClampNeg = i + 1 := ix_cl (nI_addE rfl (rfl : (1 : Int32) = nI 1)) (by omega)
  have e2 : (nI i + 2).toNatClampNeg = i + 2 := ix_cl (nI_addE rfl (rfl : (2 : Int32) = nI 2)) (by omega)
  refine am_go 400 ?_
  refine am_f (ix_in (n := i + 1) (N := X.2.2.2.2.1) (nI_addE rfl (rfl : (1 : Int32) = nI 1)) (by omega) (by omega)) ?_
  refine am_f (ix_in (n := i + 2) (N := X.2.2.2.2.1) (nI_addE rfl (rfl : (2 : Int32) = nI 2)) (by omega) (by omega)) ?_
  refine (Sp_as (as' := [.inr (.inr (some (7, 0))), .inl (I 96 0 (i + 1)), .inl (I 96 0 (i + 2))]) ?_ (p_X7_rule (d := d + 699) H.1 H.2.2.1 (I 96 0 (i + 1)) (I 96 0 (i + 2)))) _ _ _ ?_
  · show ([.inr (.inr (some (7, 0))), .inl (I 96 0 (nI i + 1).toNatClampNeg), .inl (I 96 0 (nI i + 2).toNatClampNeg)] : List am_V) = [.inr (.inr (some (7, 0))), .inl (I 96 0 (i + 1)), .inl (I 96 0 (i + 2))]
    rw [e1, e2]
  · rintro v I1 X1 ⟨rfl, hR1, hF1⟩
    have f96 : I1 96 = I 96 := hF1.1 96 rfl
    have fL := hF1.2.1
    refine am_go 400 ?_
    refine am_f (ix_in (n := i + 1) (N := X1.2.2.2.2.1) (nI_addE rfl (rfl : (1 : Int32) = nI 1)) (by omega) (by omega)) ?_
    refine am_f (ix_in (n := i + 2) (N := X1.2.2.2.2.1) (nI_addE rfl (rfl : (2 : Int32) = nI 2)) (by omega) (by omega)) ?_
    refine (Sp_as (as' := [.inr (.inr (some (8, 0))), .inl (I 96 0 (i + 1)), .inl (I 96 0 (i + 2))]) ?_ (p_X8_rule (d := d + 699) (RM_F H.2.1 hF1) H.2.2.1 (I 96 0 (i + 1)) (I 96 0 (i + 2)))) _ _ _ ?_
    · show ([.inr (.inr (some (8, 0))), .inl (I1 96 0 (nI i + 1).toNatClampNeg), .inl (I1 96 0 (nI i + 2).toNatClampNeg)] : List am_V) = [.inr (.inr (some (8, 0))), .inl (I 96 0 (i + 1)), .inl (I 96 0 (i + 2))]
      rw [f96, e1, e2]
    · rintro v2 I2 X2 ⟨rfl, hM2, hF2, rfl⟩
      refine am_go 400 ?_
      refine am_t rfl ?_
      refine am_cf rfl ?_
      refine am_cut ?_
      exact K I2 _ _ ⟨RC_F hR1 hF2, hM2, g_rule H.2.2 (I 96 0 (i + 1)) (I 96 0 (i + 2))⟩ ⟨hF1.2.1, hF1.2.2.1, hF1.2.2.2⟩
set_option maxRecDepth 100000 in
set_option maxHeartbeats 4000000 in
theorem lw_deal {I : Im} {X : am_Z} {s : St} {i L d : Nat} {fs : List am_F} {Q : Option am_V → am_M → Prop} (H : LwH I X s) (hL : X.2.2.2.2.1 = L) (hi : i + 6 ≤ L) (hL2 : L ≤ 3072) (K : ∀ (I' : Im) (X' : am_Z) (s' : St), LwH I' X' s' → LwF X X' → am_WP ((mL_law, 1676, [some (.inr (.inr (some (96, 0)))), some (.inr (.inr (some (7, 0)))), some (.inr (.inr (some (8, 0)))), some (.inl (nI i))], []) :: fs) (d + 701) (mk I' X') Q) : am_WP ((mL_law, 627, [some (.inr (.inr (some (96, 0)))), some (.inr (.inr (some (7, 0)))), some (.inr (.inr (some (8, 0)))), some (.inl (nI i))], []) :: fs) (d + 701) (mk I X) Q := by
  have e1 : (nI i + 1).toNatClampNeg = i + 1 := ix_cl (nI_addE rfl (rfl : (1 : Int32) = nI 1)) (by omega)
  refine am_go 400 ?_
  refine am_f (ix_in (n := i + 1) (N := X.2.2.2.2.1) (nI_addE rfl (rfl : (1 : Int32) = nI 1)) (by omega) (by omega)) ?_
  refine (Sp_as (as' := [.inr (.inr (some (7, 0))), .inl (I 96 0 (i + 1))]) ?_ (p_X7_deal (d := d + 698) H.1 H.2.2.1 (I 96 0 (i + 1)))) _ _ _ ?_
  · show ([.inr (.inr (some (7, 0))), .inl (I 96 0 (nI i + 1).toNatClampNeg)] : List am_V) = [.inr (.inr (some (7, 0))), .inl (I 96 0 (i + 1))]
    rw [e1]
  · rintro v I1 X1 ⟨rfl, hR1, hF1⟩
    have f96 : I1 96 = I 96 := hF1.1 96 rfl
    have fL := hF1.2.1
    refine am_go 400 ?_
    refine am_f (ix_in (n := i + 1) (N := X1.2.2.2.2.1) (nI_addE rfl (rfl : (1 : Int32) = nI 1)) (by omega) (by omega)) ?_
    refine (Sp_as (as' := [.inr (.inr (some (8, 0))), .inl (I 96 0 (i + 1))]) ?_ (p_X8_deal (d := d + 698) (RM_F H.2.1 hF1) H.2.2.1 (I 96 0 (i + 1)))) _ _ _ ?_
    · show ([.inr (.inr (some (8, 0))), .inl (I1 96 0 (nI i + 1).toNatClampNeg)] : List am_V) = [.inr (.inr (some (8, 0))), .inl (I 96 0 (i + 1))]
      rw [f96, e1]
    · rintro v2 I2 X2 ⟨rfl, hM2, hF2, rfl⟩
      refine am_go 400 ?_
      refine am_t rfl ?_
      refine am_cf rfl ?_
      refine am_cut ?_
      exact K I2 _ _ ⟨RC_F hR1 hF2, hM2, g_deal H.2.2 (I 96 0 (i + 1))⟩ ⟨hF1.2.1, hF1.2.2.1, hF1.2.2.2⟩
set_option maxRecDepth 100000 in
set_option maxHeartbeats 4000000 in
theorem lw_seed {I : Im} {X : am_Z} {s : St} {i L d : Nat} {fs : List am_F} {Q : Option am_V → am_M → Prop} (H : LwH I X s) (hL : X.2.2.2.2.1 = L) (hi : i + 6 ≤ L) (hL2 : L ≤ 3072) (K : ∀ (I' : Im) (X' : am_Z) (s' : St), LwH I' X' s' → LwF X X' → am_WP ((mL_law, 1676, [some (.inr (.inr (some (96, 0)))), some (.inr (.inr (some (7, 0)))), some (.inr (.inr (some (8, 0)))), some (.inl (nI i))], []) :: fs) (d + 701) (mk I' X') Q) : am_WP ((mL_law, 650, [some (.inr (.inr (some (96, 0)))), some (.inr (.inr (some (7, 0)))), some (.inr (.inr (some (8, 0)))), some (.inl (nI i))], []) :: fs) (d + 701) (mk I X) Q := by
  have e1 : (nI i + 1).toNatClampNeg = i + 1 := ix_cl (nI_addE rfl (rfl : (1 : Int32) = nI 1)) (by omega)
  refine am_go 400 ?_
  refine am_f (ix_in (n := i + 1) (N := X.2.2.2.2.1) (nI_addE rfl (rfl : (1 : Int32) = nI 1)) (by omega) (by omega)) ?_
  refine (Sp_as (as' := [.inr (.inr (some (7, 0))), .inl (I 96 0 (i + 1))]) ?_ (p_X7_seed (d := d + 700) H.1 H.2.2.1 (I 96 0 (i + 1)))) _ _ _ ?_
  · show ([.inr (.inr (some (7, 0))), .inl (I 96 0 (nI i + 1).toNatClampNeg)] : List am_V) = [.inr (.inr (some (7, 0))), .inl (I 96 0 (i + 1))]
    rw [e1]
  · rintro v I1 X1 ⟨rfl, hR1, hF1⟩
    have f96 : I1 96 = I 96 := hF1.1 96 rfl
    have fL := hF1.2.1
    refine am_go 400 ?_
    refine am_f (ix_in (n := i + 1) (N := X1.2.2.2.2.1) (nI_addE rfl (rfl : (1 : Int32) = nI 1)) (by omega) (by omega)) ?_
    refine (Sp_as (as' := [.inr (.inr (some (8, 0))), .inl (I 96 0 (i + 1))]) ?_ (p_X8_seed (d := d + 699) (RM_F H.2.1 hF1) H.2.2.1 (I 96 0 (i + 1)))) _ _ _ ?_
    · show ([.inr (.inr (some (8, 0))), .inl (I1 96 0 (nI i + 1).toNatClampNeg)] : List am_V) = [.inr (.inr (some (8, 0))), .inl (I 96 0 (i + 1))]
      rw [f96, e1]
    · rintro v2 I2 X2 ⟨rfl, hM2, hF2, rfl⟩
      refine am_go 400 ?_
      refine am_t rfl ?_
      refine am_cf rfl ?_
      refine am_cut ?_
      exact K I2 _ _ ⟨RC_F hR1 hF2, hM2, g_seed H.2.2 (I 96 0 (i + 1))⟩ ⟨hF1.2.1, hF1.2.2.1, hF1.2.2.2⟩
set_option maxRecDepth 100000 in
set_option maxHeartbeats 4000000 in
theorem lw_years {I : Im} {X : am_Z} {s : St} {i L d : Nat} {fs : List am_F} {Q : Option am_V → am_M → Prop} (H : LwH I X s) (hL : X.2.2.2.2.1 = L) (hi : i + 6 ≤ L) (hL2 : L ≤ 3072) (K : ∀ (I' : Im) (X' : am_Z) (s' : St), LwH I' X' s' → LwF X X' → am_WP ((mL_law, 1676, [some (.inr (.inr (some (96, 0)))), some (.inr (.inr (some (7, 0)))), some (.inr (.inr (some (8, 0)))), some (.inl (nI i))], []) :: fs) (d + 701) (mk I' X') Q) : am_WP ((mL_law, 673, [some (.inr (.inr (some (96, 0)))), some (.inr (.inr (some (7, 0)))), some (.inr (.inr (some (8, 0)))), some (.inl (nI i))], []) :: fs) (d + 701) (mk I X) Q := by
  have e1 : (nI i + 1).toNatClampNeg = i + 1 := ix_cl (nI_addE rfl (rfl : (1 : Int32) = nI 1)) (by omega)
  refine am_go 400 ?_
  refine am_f (ix_in (n := i + 1) (N := X.2.2.2.2.1) (nI_addE rfl (rfl : (1 : Int32) = nI 1)) (by omega) (by omega)) ?_
  refine (Sp_as (as' := [.inr (.inr (some (7, 0))), .inl (I 96 0 (i + 1))]) ?_ (p_X7_years (d := d + 698) H.1 H.2.2.1 (I 96 0 (i + 1)))) _ _ _ ?_
  · show ([.inr (.inr (some (7, 0))), .inl (I 96 0 (nI i + 1).toNatClampNeg)] : List am_V) = [.inr (.inr (some (7, 0))), .inl (I 96 0 (i + 1))]
    rw [e1]
  · rintro v I1 X1 ⟨rfl, hR1, hF1⟩
    have f96 : I1 96 = I 96 := hF1.1 96 rfl
    have fL := hF1.2.1
    refine am_go 400 ?_
    refine am_f (ix_in (n := i + 1) (N := X1.2.2.2.2.1) (nI_addE rfl (rfl : (1 : Int32) = nI 1)) (by omega) (by omega)) ?_
    refine (Sp_as (as' := [.inr (.inr (some (8, 0))), .inl (I 96 0 (i + 1))]) ?_ (p_X8_years (d := d + 697) (RM_F H.2.1 hF1) H.2.2.1 (I 96 0 (i + 1)))) _ _ _ ?_
    · show ([.inr (.inr (some (8, 0))), .inl (I1 96 0 (nI i + 1).toNatClampNeg)] : List am_V) = [.inr (.inr (some (8, 0))), .inl (I 96 0 (i + 1))]
      rw [f96, e1]
    · rintro v2 I2 X2 ⟨rfl, hM2, hF2, rfl⟩
      refine am_go 400 ?_
      refine am_t rfl ?_
      refine am_cf rfl ?_
      refine am_cut ?_
      exact K I2 _ _ ⟨RC_F hR1 hF2, hM2, g_years H.2.2 (I 96 0 (i + 1))⟩ ⟨hF1.2.1, hF1.2.2.1, hF1.2.2.2⟩
set_option maxRecDepth 100000 in
set_option maxHeartbeats 4000000 in
theorem lw_cellar {I : Im} {X : am_Z} {s : St} {i L d : Nat} {fs : List am_F} {Q : Option am_V → am_M → Prop} (H : LwH I X s) (hL : X.2.2.2.2.1 = L) (hi : i + 6 ≤ L) (hL2 : L ≤ 3072) (K : ∀ (I' : Im) (X' : am_Z) (s' : St), LwH I' X' s' → LwF X X' → am_WP ((mL_law, 1676, [some (.inr (.inr (some (96, 0)))), some (.inr (.inr (some (7, 0)))), some (.inr (.inr (some (8, 0)))), some (.inl (nI i))], []) :: fs) (d + 701) (mk I' X') Q) : am_WP ((mL_law, 696, [some (.inr (.inr (some (96, 0)))), some (.inr (.inr (some (7, 0)))), some (.inr (.inr (some (8, 0)))), some (.inl (nI i))], []) :: fs) (d + 701) (mk I X) Q := by
  have e1 : (nI i + 1).toNatClampNeg = i + 1 := ix_cl (nI_addE rfl (rfl : (1 : Int32) = nI 1)) (by omega)
  refine am_go 400 ?_
  refine am_f (ix_in (n := i + 1) (N := X.2.2.2.2.1) (nI_addE rfl (rfl : (1 : Int32) = nI 1)) (by omega) (by omega)) ?_
  refine (Sp_as (as' := [.inr (.inr (some (7, 0))), .inl (I 96 0 (i + 1))]) ?_ (p_X7_cellar (d := d + 699) H.1 H.2.2.1 (I 96 0 (i + 1)))) _ _ _ ?_
  · show ([.inr (.inr (some (7, 0))), .inl (I 96 0 (nI i + 1).toNatClampNeg)] : List am_V) = [.inr (.inr (some (7, 0))), .inl (I 96 0 (i + 1))]
    rw [e1]
  · rintro v I1 X1 ⟨rfl, hR1, hF1⟩
    have f96 : I1 96 = I 96 := hF1.1 96 rfl
    have fL := hF1.2.1
    refine am_go 400 ?_
    refine am_f (ix_in (n := i + 1) (N := X1.2.2.2.2.1) (nI_addE rfl (rfl : (1 : Int32) = nI 1)) (by omega) (by omega)) ?_
    refine (Sp_as (as' := [.inr (.inr (some (8, 0))), .inl (I 96 0 (i + 1))]) ?_ (p_X8_cellar (d := d + 698) (RM_F H.2.1 hF1) H.2.2.1 (I 96 0 (i + 1)))) _ _ _ ?_
    · show ([.inr (.inr (some (8, 0))), .inl (I1 96 0 (nI i + 1).toNatClampNeg)] : List am_V) = [.inr (.inr (some (8, 0))), .inl (I 96 0 (i + 1))]
      rw [f96, e1]
    · rintro v2 I2 X2 ⟨rfl, hM2, hF2, rfl⟩
      refine am_go 400 ?_
      refine am_t rfl ?_
      refine am_cf rfl ?_
      refine am_cut ?_
      exact K I2 _ _ ⟨RC_F hR1 hF2, hM2, g_cellar H.2.2 (I 96 0 (i + 1))⟩ ⟨hF1.2.1, hF1.2.2.1, hF1.2.2.2⟩
set_option maxRecDepth 100000 in
set_option maxHeartbeats 4000000 in
theorem lw_tried {I : Im} {X : am_Z} {s : St} {i L d : Nat} {fs : List am_F} {Q : Option am_V → am_M → Prop} (H : LwH I X s) (hL : X.2.2.2.2.1 = L) (hi : i + 6 ≤ L) (hL2 : L ≤ 3072) (K : ∀ (I' : Im) (X' : am_Z) (s' : St), LwH I' X' s' → LwF X X' → am_WP ((mL_law, 1676, [some (.inr (.inr (some (96, 0)))), some (.inr (.inr (some (7, 0)))), some (.inr (.inr (some (8, 0)))), some (.inl (nI i))], []) :: fs) (d + 701) (mk I' X') Q) : am_WP ((mL_law, 719, [some (.inr (.inr (some (96, 0)))), some (.inr (.inr (some (7, 0)))), some (.inr (.inr (some (8, 0)))), some (.inl (nI i))], []) :: fs) (d + 701) (mk I X) Q := by
  have e1 : (nI i + 1).toNatClampNeg = i + 1 := ix_cl (nI_addE rfl (rfl : (1 : Int32) = nI 1)) (by omega)
  have e2 : (nI i + 2).toNatClampNeg = i + 2 := ix_cl (nI_addE rfl (rfl : (2 : Int32) = nI 2)) (by omega)
  have e3 : (nI i + 3).toNatClampNeg = i + 3 := ix_cl (nI_addE rfl (rfl : (3 : Int32) = nI 3)) (by omega)
  have e4 : (nI i + 4).toNatClampNeg = i + 4 := ix_cl (nI_addE rfl (rfl : (4 : Int32) = nI 4)) (by omega)
  refine am_go 400 ?_
  refine am_f (ix_in (n := i + 1) (N := X.2.2.2.2.1) (nI_addE rfl (rfl : (1 : Int32) = nI 1)) (by omega) (by omega)) ?_
  refine am_f (ix_in (n := i + 2) (N := X.2.2.2.2.1) (nI_addE rfl (rfl : (2 : Int32) = nI 2)) (by omega) (by omega)) ?_
  refine am_f (ix_in (n := i + 3) (N := X.2.2.2.2.1) (nI_addE rfl (rfl : (3 : Int32) = nI 3)) (by omega) (by omega)) ?_
  refine am_f (ix_in (n := i + 4) (N := X.2.2.2.2.1) (nI_addE rfl (rfl : (4 : Int32) = nI 4)) (by omega) (by omega)) ?_
  refine (Sp_as (as' := [.inr (.inr (some (7, 0))), .inl (I 96 0 (i + 1)), .inl (I 96 0 (i + 2)), .inl (I 96 0 (i + 3)), .inl (I 96 0 (i + 4))]) ?_ (p_X7_tried (d := d + 695) H.1 H.2.2.1 (I 96 0 (i + 1)) (I 96 0 (i + 2)) (I 96 0 (i + 3)) (I 96 0 (i + 4)))) _ _ _ ?_
  · show ([.inr (.inr (some (7, 0))), .inl (I 96 0 (nI i + 1).toNatClampNeg), .inl (I 96 0 (nI i + 2).toNatClampNeg), .inl (I 96 0 (nI i + 3).toNatClampNeg), .inl (I 96 0 (nI i + 4).toNatClampNeg)] : List am_V) = [.inr (.inr (some (7, 0))), .inl (I 96 0 (i + 1)), .inl (I 96 0 (i + 2)), .inl (I 96 0 (i + 3)), .inl (I 96 0 (i + 4))]
    rw [e1, e2, e3, e4]
  · rintro v I1 X1 ⟨rfl, hR1, hF1⟩
    have f96 : I1 96 = I 96 := hF1.1 96 rfl
    have fL := hF1.2.1
    refine am_go 400 ?_
    refine am_f (ix_in (n := i + 1) (N := X1.2.2.2.2.1) (nI_addE rfl (rfl : (1 : Int32) = nI 1)) (by omega) (by omega)) ?_
    refine am_f (ix_in (n := i + 2) (N := X1.2.2.2.2.1) (nI_addE rfl (rfl : (2 : Int32) = nI 2)) (by omega) (by omega)) ?_
    refine am_f (ix_in (n := i + 3) (N := X1.2.2.2.2.1) (nI_addE rfl (rfl : (3 : Int32) = nI 3)) (by omega) (by omega)) ?_
    refine am_f (ix_in (n := i + 4) (N := X1.2.2.2.2.1) (nI_addE rfl (rfl : (4 : Int32) = nI 4)) (by omega) (by omega)) ?_
    refine (Sp_as (as' := [.inr (.inr (some (8, 0))), .inl (I 96 0 (i + 1)), .inl (I 96 0 (i + 2)), .inl (I 96 0 (i + 3)), .inl (I 96 0 (i + 4))]) ?_ (p_X8_tried (d := d + 696) (RM_F H.2.1 hF1) H.2.2.1 (I 96 0 (i + 1)) (I 96 0 (i + 2)) (I 96 0 (i + 3)) (I 96 0 (i + 4)))) _ _ _ ?_
    · show ([.inr (.inr (some (8, 0))), .inl (I1 96 0 (nI i + 1).toNatClampNeg), .inl (I1 96 0 (nI i + 2).toNatClampNeg), .inl (I1 96 0 (nI i + 3).toNatClampNeg), .inl (I1 96 0 (nI i + 4).toNatClampNeg)] : List am_V) = [.inr (.inr (some (8, 0))), .inl (I 96 0 (i + 1)), .inl (I 96 0 (i + 2)), .inl (I 96 0 (i + 3)), .inl (I 96 0 (i + 4))]
      rw [f96, e1, e2, e3, e4]
    · rintro v2 I2 X2 ⟨rfl, hM2, hF2, rfl⟩
      refine am_go 400 ?_
      refine am_t rfl ?_
      refine am_cf rfl ?_
      refine am_cut ?_
      exact K I2 _ _ ⟨RC_F hR1 hF2, hM2, g_tried H.2.2 (I 96 0 (i + 1)) (I 96 0 (i + 2)) (I 96 0 (i + 3)) (I 96 0 (i + 4))⟩ ⟨hF1.2.1, hF1.2.2.1, hF1.2.2.2⟩
set_option maxRecDepth 100000 in
set_option maxHeartbeats 4000000 in
theorem lw_depth {I : Im} {X : am_Z} {s : St} {i L d : Nat} {fs : List am_F} {Q : Option am_V → am_M → Prop} (H : LwH I X s) (hL : X.2.2.2.2.1 = L) (hi : i + 6 ≤ L) (hL2 : L ≤ 3072) (K : ∀ (I' : Im) (X' : am_Z) (s' : St), LwH I' X' s' → LwF X X' → am_WP ((mL_law, 1676, [some (.inr (.inr (some (96, 0)))), some (.inr (.inr (some (7, 0)))), some (.inr (.inr (some (8, 0)))), some (.inl (nI i))], []) :: fs) (d + 701) (mk I' X') Q) : am_WP ((mL_law, 772, [some (.inr (.inr (some (96, 0)))), some (.inr (.inr (some (7, 0)))), some (.inr (.inr (some (8, 0)))), some (.inl (nI i))], []) :: fs) (d + 701) (mk I X) Q := by
  have e1 : (nI i + 1).toNatClampNeg = i + 1 := ix_cl (nI_addE rfl (rfl : (1 : Int32) = nI 1)) (by omega)
  have e2 : (nI i + 2).toNatClampNeg = i + 2 := ix_cl (nI_addE rfl (rfl : (2 : Int32) = nI 2)) (by omega)
  have e3 : (nI i + 3).toNatClampNeg = i + 3 := ix_cl (nI_addE rfl (rfl : (3 : Int32) = nI 3)) (by omega)
  refine am_go 400 ?_
  refine am_f (ix_in (n := i + 1) (N := X.2.2.2.2.1) (nI_addE rfl (rfl : (1 : Int32) = nI 1)) (by omega) (by omega)) ?_
  refine am_f (ix_in (n := i + 2) (N := X.2.2.2.2.1) (nI_addE rfl (rfl : (2 : Int32) = nI 2)) (by omega) (by omega)) ?_
  refine am_f (ix_in (n := i + 3) (N := X.2.2.2.2.1) (nI_addE rfl (rfl : (3 : Int32) = nI 3)) (by omega) (by omega)) ?_
  refine (Sp_as (as' := [.inr (.inr (some (7, 0))), .inl (I 96 0 (i + 1)), .inl (I 96 0 (i + 2)), .inl (I 96 0 (i + 3))]) ?_ (p_X7_depth (d := d + 695) H.1 H.2.2.1 (I 96 0 (i + 1)) (I 96 0 (i + 2)) (I 96 0 (i + 3)))) _ _ _ ?_
  · show ([.inr (.inr (some (7, 0))), .inl (I 96 0 (nI i + 1).toNatClampNeg), .inl (I 96 0 (nI i + 2).toNatClampNeg), .inl (I 96 0 (nI i + 3).toNatClampNeg)] : List am_V) = [.inr (.inr (some (7, 0))), .inl (I 96 0 (i + 1)), .inl (I 96 0 (i + 2)), .inl (I 96 0 (i + 3))]
    rw [e1, e2, e3]
  · rintro v I1 X1 ⟨rfl, hR1, hF1⟩
    have f96 : I1 96 = I 96 := hF1.1 96 rfl
    have fL := hF1.2.1
    refine am_go 400 ?_
    refine am_f (ix_in (n := i + 1) (N := X1.2.2.2.2.1) (nI_addE rfl (rfl : (1 : Int32) = nI 1)) (by omega) (by omega)) ?_
    refine am_f (ix_in (n := i + 2) (N := X1.2.2.2.2.1) (nI_addE rfl (rfl : (2 : Int32) = nI 2)) (by omega) (by omega)) ?_
    refine am_f (ix_in (n := i + 3) (N := X1.2.2.2.2.1) (nI_addE rfl (rfl : (3 : Int32) = nI 3)) (by omega) (by omega)) ?_
    refine (Sp_as (as' := [.inr (.inr (some (8, 0))), .inl (I 96 0 (i + 1)), .inl (I 96 0 (i + 2)), .inl (I 96 0 (i + 3))]) ?_ (p_X8_depth (d := d + 696) (RM_F H.2.1 hF1) H.2.2.1 (I 96 0 (i + 1)) (I 96 0 (i + 2)) (I 96 0 (i + 3)))) _ _ _ ?_
    · show ([.inr (.inr (some (8, 0))), .inl (I1 96 0 (nI i + 1).toNatClampNeg), .inl (I1 96 0 (nI i + 2).toNatClampNeg), .inl (I1 96 0 (nI i + 3).toNatClampNeg)] : List am_V) = [.inr (.inr (some (8, 0))), .inl (I 96 0 (i + 1)), .inl (I 96 0 (i + 2)), .inl (I 96 0 (i + 3))]
      rw [f96, e1, e2, e3]
    · rintro v2 I2 X2 ⟨rfl, hM2, hF2, rfl⟩
      refine am_go 400 ?_
      refine am_t rfl ?_
      refine am_cf rfl ?_
      refine am_cut ?_
      exact K I2 _ _ ⟨RC_F hR1 hF2, hM2, g_depth H.2.2 (I 96 0 (i + 1)) (I 96 0 (i + 2)) (I 96 0 (i + 3))⟩ ⟨hF1.2.1, hF1.2.2.1, hF1.2.2.2⟩
set_option maxRecDepth 100000 in
set_option maxHeartbeats 4000000 in
theorem lw_tree {I : Im} {X : am_Z} {s : St} {i L d : Nat} {fs : List am_F} {Q : Option am_V → am_M → Prop} (H : LwH I X s) (hL : X.2.2.2.2.1 = L) (hi : i + 6 ≤ L) (hL2 : L ≤ 3072) (K : ∀ (I' : Im) (X' : am_Z) (s' : St), LwH I' X' s' → LwF X X' → am_WP ((mL_law, 1676, [some (.inr (.inr (some (96, 0)))), some (.inr (.inr (some (7, 0)))), some (.inr (.inr (some (8, 0)))), some (.inl (nI i))], []) :: fs) (d + 701) (mk I' X') Q) : am_WP ((mL_law, 815, [some (.inr (.inr (some (96, 0)))), some (.inr (.inr (some (7, 0)))), some (.inr (.inr (some (8, 0)))), some (.inl (nI i))], []) :: fs) (d + 701) (mk I X) Q := by
  have e1 : (nI i + 1).toNatClampNeg = i + 1 := ix_cl (nI_addE rfl (rfl : (1 : Int32) = nI 1)) (by omega)
  have e2 : (nI i + 2).toNatClampNeg = i + 2 := ix_cl (nI_addE rfl (rfl : (2 : Int32) = nI 2)) (by omega)
  have e3 : (nI i + 3).toNatClampNeg = i + 3 := ix_cl (nI_addE rfl (rfl : (3 : Int32) = nI 3)) (by omega)
  refine am_go 400 ?_
  refine am_f (ix_in (n := i + 1) (N := X.2.2.2.2.1) (nI_addE rfl (rfl : (1 : Int32) = nI 1)) (by omega) (by omega)) ?_
  refine am_f (ix_in (n := i + 2) (N := X.2.2.2.2.1) (nI_addE rfl (rfl : (2 : Int32) = nI 2)) (by omega) (by omega)) ?_
  refine am_f (ix_in (n := i + 3) (N := X.2.2.2.2.1) (nI_addE rfl (rfl : (3 : Int32) = nI 3)) (by omega) (by omega)) ?_
  refine (Sp_as (as' := [.inr (.inr (some (7, 0))), .inl (I 96 0 (i + 1)), .inl (I 96 0 (i + 2)), .inl (I 96 0 (i + 3))]) ?_ (p_X7_tree (d := d + 695) H.1 H.2.2.1 (I 96 0 (i + 1)) (I 96 0 (i + 2)) (I 96 0 (i + 3)))) _ _ _ ?_
  · show ([.inr (.inr (some (7, 0))), .inl (I 96 0 (nI i + 1).toNatClampNeg), .inl (I 96 0 (nI i + 2).toNatClampNeg), .inl (I 96 0 (nI i + 3).toNatClampNeg)] : List am_V) = [.inr (.inr (some (7, 0))), .inl (I 96 0 (i + 1)), .inl (I 96 0 (i + 2)), .inl (I 96 0 (i + 3))]
    rw [e1, e2, e3]
  · rintro v I1 X1 ⟨rfl, hR1, hF1⟩
    have f96 : I1 96 = I 96 := hF1.1 96 rfl
    have fL := hF1.2.1
    refine am_go 400 ?_
    refine am_f (ix_in (n := i + 1) (N := X1.2.2.2.2.1) (nI_addE rfl (rfl : (1 : Int32) = nI 1)) (by omega) (by omega)) ?_
    refine am_f (ix_in (n := i + 2) (N := X1.2.2.2.2.1) (nI_addE rfl (rfl : (2 : Int32) = nI 2)) (by omega) (by omega)) ?_
    refine am_f (ix_in (n := i + 3) (N := X1.2.2.2.2.1) (nI_addE rfl (rfl : (3 : Int32) = nI 3)) (by omega) (by omega)) ?_
    refine (Sp_as (as' := [.inr (.inr (some (8, 0))), .inl (I 96 0 (i + 1)), .inl (I 96 0 (i + 2)), .inl (I 96 0 (i + 3))]) ?_ (p_X8_tree (d := d + 695) (RM_F H.2.1 hF1) H.2.2.1 (I 96 0 (i + 1)) (I 96 0 (i + 2)) (I 96 0 (i + 3)))) _ _ _ ?_
    · show ([.inr (.inr (some (8, 0))), .inl (I1 96 0 (nI i + 1).toNatClampNeg), .inl (I1 96 0 (nI i + 2).toNatClampNeg), .inl (I1 96 0 (nI i + 3).toNatClampNeg)] : List am_V) = [.inr (.inr (some (8, 0))), .inl (I 96 0 (i + 1)), .inl (I 96 0 (i + 2)), .inl (I 96 0 (i + 3))]
      rw [f96, e1, e2, e3]
    · rintro v2 I2 X2 ⟨rfl, hM2, hF2, rfl⟩
      refine am_go 400 ?_
      refine am_t rfl ?_
      refine am_cf rfl ?_
      refine am_cut ?_
      exact K I2 _ _ ⟨RC_F hR1 hF2, hM2, g_tree H.2.2 (I 96 0 (i + 1)) (I 96 0 (i + 2)) (I 96 0 (i + 3))⟩ ⟨hF1.2.1, hF1.2.2.1, hF1.2.2.2⟩
set_option maxRecDepth 100000 in
set_option maxHeartbeats 4000000 in
theorem lw_behind {I : Im} {X : am_Z} {s : St} {i L d : Nat} {fs : List am_F} {Q : Option am_V → am_M → Prop} (H : LwH I X s) (hL : X.2.2.2.2.1 = L) (hi : i + 6 ≤ L) (hL2 : L ≤ 3072) (K : ∀ (I' : Im) (X' : am_Z) (s' : St), LwH I' X' s' → LwF X X' → am_WP ((mL_law, 1676, [some (.inr (.inr (some (96, 0)))), some (.inr (.inr (some (7, 0)))), some (.inr (.inr (some (8, 0)))), some (.inl (nI i))], []) :: fs) (d + 701) (mk I' X') Q) : am_WP ((mL_law, 858, [some (.inr (.inr (some (96, 0)))), some (.inr (.inr (some (7, 0)))), some (.inr (.inr (some (8, 0)))), some (.inl (nI i))], []) :: fs) (d + 701) (mk I X) Q := by
  have e1 : (nI i + 1).toNatClampNeg = i + 1 := ix_cl (nI_addE rfl (rfl : (1 : Int32) = nI 1)) (by omega)
  have e2 : (nI i + 2).toNatClampNeg = i + 2 := ix_cl (nI_addE rfl (rfl : (2 : Int32) = nI 2)) (by omega)
  refine am_go 400 ?_
  refine am_f (ix_in (n := i + 1) (N := X.2.2.2.2.1) (nI_addE rfl (rfl : (1 : Int32) = nI 1)) (by omega) (by omega)) ?_
  refine am_f (ix_in (n := i + 2) (N := X.2.2.2.2.1) (nI_addE rfl (rfl : (2 : Int32) = nI 2)) (by omega) (by omega)) ?_
  refine (Sp_as (as' := [.inr (.inr (some (7, 0))), .inl (I 96 0 (i + 1)), .inl (I 96 0 (i + 2))]) ?_ (p_X7_behind (d := d + 696) H.1 H.2.2.1 (I 96 0 (i + 1)) (I 96 0 (i + 2)))) _ _ _ ?_
  · show ([.inr (.inr (some (7, 0))), .inl (I 96 0 (nI i + 1).toNatClampNeg), .inl (I 96 0 (nI i + 2).toNatClampNeg)] : List am_V) = [.inr (.inr (some (7, 0))), .inl (I 96 0 (i + 1)), .inl (I 96 0 (i + 2))]
    rw [e1, e2]
  · rintro v I1 X1 ⟨rfl, hR1, hF1⟩
    have f96 : I1 96 = I 96 := hF1.1 96 rfl
    have fL := hF1.2.1
    refine am_go 400 ?_
    refine am_f (ix_in (n := i + 1) (N := X1.2.2.2.2.1) (nI_addE rfl (rfl : (1 : Int32) = nI 1)) (by omega) (by omega)) ?_
    refine am_f (ix_in (n := i + 2) (N := X1.2.2.2.2.1) (nI_addE rfl (rfl : (2 : Int32) = nI 2)) (by omega) (by omega)) ?_
    refine (Sp_as (as' := [.inr (.inr (some (8, 0))), .inl (I 96 0 (i + 1)), .inl (I 96 0 (i + 2))]) ?_ (p_X8_behind (d := d + 696) (RM_F H.2.1 hF1) H.2.2.1 (I 96 0 (i + 1)) (I 96 0 (i + 2)))) _ _ _ ?_
    · show ([.inr (.inr (some (8, 0))), .inl (I1 96 0 (nI i + 1).toNatClampNeg), .inl (I1 96 0 (nI i + 2).toNatClampNeg)] : List am_V) = [.inr (.inr (some (8, 0))), .inl (I 96 0 (i + 1)), .inl (I 96 0 (i + 2))]
      rw [f96, e1, e2]
    · rintro v2 I2 X2 ⟨rfl, hM2, hF2, rfl⟩
      refine am_go 400 ?_
      refine am_t rfl ?_
      refine am_cf rfl ?_
      refine am_cut ?_
      exact K I2 _ _ ⟨RC_F hR1 hF2, hM2, g_behind H.2.2 (I 96 0 (i + 1)) (I 96 0 (i + 2))⟩ ⟨hF1.2.1, hF1.2.2.1, hF1.2.2.2⟩
set_option maxRecDepth 100000 in
set_option maxHeartbeats 4000000 in
theorem lw_when {I : Im} {X : am_Z} {s : St} {i L d : Nat} {fs : List am_F} {Q : Option am_V → am_M → Prop} (H : LwH I X s) (hL : X.2.2.2.2.1 = L) (hi : i + 6 ≤ L) (hL2 : L ≤ 3072) (K : ∀ (I' : Im) (X' : am_Z) (s' : St), LwH I' X' s' → LwF X X' → am_WP ((mL_law, 1676, [some (.inr (.inr (some (96, 0)))), some (.inr (.inr (some (7, 0)))), some (.inr (.inr (some (8, 0)))), some (.inl (nI i))], []) :: fs) (d + 701) (mk I' X') Q) : am_WP ((mL_law, 891, [some (.inr (.inr (some (96, 0)))), some (.inr (.inr (some (7, 0)))), some (.inr (.inr (some (8, 0)))), some (.inl (nI i))], []) :: fs) (d + 701) (mk I X) Q := by
  have e1 : (nI i + 1).toNatClampNeg = i + 1 := ix_cl (nI_addE rfl (rfl : (1 : Int32) = nI 1)) (by omega)
  have e2 : (nI i + 2).toNatClampNeg = i + 2 := ix_cl (nI_addE rfl (rfl : (2 : Int32) = nI 2)) (by omega)
  have e3 : (nI i + 3).toNatClampNeg = i + 3 := ix_cl (nI_addE rfl (rfl : (3 : Int32) = nI 3)) (by omega)
  refine am_go 400 ?_
  refine am_f (ix_in (n := i + 1) (N := X.2.2.2.2.1) (nI_addE rfl (rfl : (1 : Int32) = nI 1)) (by omega) (by omega)) ?_
  refine am_f (ix_in (n := i + 2) (N := X.2.2.2.2.1) (nI_addE rfl (rfl : (2 : Int32) = nI 2)) (by omega) (by omega)) ?_
  refine am_f (ix_in (n := i + 3) (N := X.2.2.2.2.1) (nI_addE rfl (rfl : (3 : Int32) = nI 3)) (by omega) (by omega)) ?_
  refine (Sp_as (as' := [.inr (.inr (some (7, 0))), .inl (I 96 0 (i + 1)), .inl (I 96 0 (i + 2)), .inl (I 96 0 (i + 3))]) ?_ (p_X7_when (d := d + 694) H.1 H.2.2.1 (I 96 0 (i + 1)) (I 96 0 (i + 2)) (I 96 0 (i + 3)))) _ _ _ ?_
  · show ([.inr (.inr (some (7, 0))), .inl (I 96 0 (nI i + 1).toNatClampNeg), .inl (I 96 0 (nI i + 2).toNatClampNeg), .inl (I 96 0 (nI i + 3).toNatClampNeg)] : List am_V) = [.inr (.inr (some (7, 0))), .inl (I 96 0 (i + 1)), .inl (I 96 0 (i + 2)), .inl (I 96 0 (i + 3))]
    rw [e1, e2, e3]
  · rintro v I1 X1 ⟨rfl, hR1, hF1⟩
    have f96 : I1 96 = I 96 := hF1.1 96 rfl
    have fL := hF1.2.1
    refine am_go 400 ?_
    refine am_f (ix_in (n := i + 1) (N := X1.2.2.2.2.1) (nI_addE rfl (rfl : (1 : Int32) = nI 1)) (by omega) (by omega)) ?_
    refine am_f (ix_in (n := i + 2) (N := X1.2.2.2.2.1) (nI_addE rfl (rfl : (2 : Int32) = nI 2)) (by omega) (by omega)) ?_
    refine am_f (ix_in (n := i + 3) (N := X1.2.2.2.2.1) (nI_addE rfl (rfl : (3 : Int32) = nI 3)) (by omega) (by omega)) ?_
    refine (Sp_as (as' := [.inr (.inr (some (8, 0))), .inl (I 96 0 (i + 1)), .inl (I 96 0 (i + 2)), .inl (I 96 0 (i + 3))]) ?_ (p_X8_when (d := d + 694) (RM_F H.2.1 hF1) H.2.2.1 (I 96 0 (i + 1)) (I 96 0 (i + 2)) (I 96 0 (i + 3)))) _ _ _ ?_
    · show ([.inr (.inr (some (8, 0))), .inl (I1 96 0 (nI i + 1).toNatClampNeg), .inl (I1 96 0 (nI i + 2).toNatClampNeg), .inl (I1 96 0 (nI i + 3).toNatClampNeg)] : List am_V) = [.inr (.inr (some (8, 0))), .inl (I 96 0 (i + 1)), .inl (I 96 0 (i + 2)), .inl (I 96 0 (i + 3))]
      rw [f96, e1, e2, e3]
    · rintro v2 I2 X2 ⟨rfl, hM2, hF2, rfl⟩
      refine am_go 400 ?_
      refine am_t rfl ?_
      refine am_cf rfl ?_
      refine am_cut ?_
      exact K I2 _ _ ⟨RC_F hR1 hF2, hM2, g_when H.2.2 (I 96 0 (i + 1)) (I 96 0 (i + 2)) (I 96 0 (i + 3))⟩ ⟨hF1.2.1, hF1.2.2.1, hF1.2.2.2⟩
set_option maxRecDepth 100000 in
set_option maxHeartbeats 4000000 in
theorem lw_which {I : Im} {X : am_Z} {s : St} {i L d : Nat} {fs : List am_F} {Q : Option am_V → am_M → Prop} (H : LwH I X s) (hL : X.2.2.2.2.1 = L) (hi : i + 6 ≤ L) (hL2 : L ≤ 3072) (K : ∀ (I' : Im) (X' : am_Z) (s' : St), LwH I' X' s' → LwF X X' → am_WP ((mL_law, 1676, [some (.inr (.inr (some (96, 0)))), some (.inr (.inr (some (7, 0)))), some (.inr (.inr (some (8, 0)))), some (.inl (nI i))], []) :: fs) (d + 701) (mk I' X') Q) : am_WP ((mL_law, 934, [some (.inr (.inr (some (96, 0)))), some (.inr (.inr (some (7, 0)))), some (.inr (.inr (some (8, 0)))), some (.inl (nI i))], []) :: fs) (d + 701) (mk I X) Q := by
  have e1 : (nI i + 1).toNatClampNeg = i + 1 := ix_cl (nI_addE rfl (rfl : (1 : Int32) = nI 1)) (by omega)
  have e2 : (nI i + 2).toNatClampNeg = i + 2 := ix_cl (nI_addE rfl (rfl : (2 : Int32) = nI 2)) (by omega)
  have e3 : (nI i + 3).toNatClampNeg = i + 3 := ix_cl (nI_addE rfl (rfl : (3 : Int32) = nI 3)) (by omega)
  refine am_go 400 ?_
  refine am_f (ix_in (n := i + 1) (N := X.2.2.2.2.1) (nI_addE rfl (rfl : (1 : Int32) = nI 1)) (by omega) (by omega)) ?_
  refine am_f (ix_in (n := i + 2) (N := X.2.2.2.2.1) (nI_addE rfl (rfl : (2 : Int32) = nI 2)) (by omega) (by omega)) ?_
  refine am_f (ix_in (n := i + 3) (N := X.2.2.2.2.1) (nI_addE rfl (rfl : (3 : Int32) = nI 3)) (by omega) (by omega)) ?_
  refine (Sp_as (as' := [.inr (.inr (some (7, 0))), .inl (I 96 0 (i + 1)), .inl (I 96 0 (i + 2)), .inl (I 96 0 (i + 3))]) ?_ (p_X7_which (d := d + 694) H.1 H.2.2.1 (I 96 0 (i + 1)) (I 96 0 (i + 2)) (I 96 0 (i + 3)))) _ _ _ ?_
  · show ([.inr (.inr (some (7, 0))), .inl (I 96 0 (nI i + 1).toNatClampNeg), .inl (I 96 0 (nI i + 2).toNatClampNeg), .inl (I 96 0 (nI i + 3).toNatClampNeg)] : List am_V) = [.inr (.inr (some (7, 0))), .inl (I 96 0 (i + 1)), .inl (I 96 0 (i + 2)), .inl (I 96 0 (i + 3))]
    rw [e1, e2, e3]
  · rintro v I1 X1 ⟨rfl, hR1, hF1⟩
    have f96 : I1 96 = I 96 := hF1.1 96 rfl
    have fL := hF1.2.1
    refine am_go 400 ?_
    refine am_f (ix_in (n := i + 1) (N := X1.2.2.2.2.1) (nI_addE rfl (rfl : (1 : Int32) = nI 1)) (by omega) (by omega)) ?_
    refine am_f (ix_in (n := i + 2) (N := X1.2.2.2.2.1) (nI_addE rfl (rfl : (2 : Int32) = nI 2)) (by omega) (by omega)) ?_
    refine am_f (ix_in (n := i + 3) (N := X1.2.2.2.2.1) (nI_addE rfl (rfl : (3 : Int32) = nI 3)) (by omega) (by omega)) ?_
    refine (Sp_as (as' := [.inr (.inr (some (8, 0))), .inl (I 96 0 (i + 1)), .inl (I 96 0 (i + 2)), .inl (I 96 0 (i + 3))]) ?_ (p_X8_which (d := d + 694) (RM_F H.2.1 hF1) H.2.2.1 (I 96 0 (i + 1)) (I 96 0 (i + 2)) (I 96 0 (i + 3)))) _ _ _ ?_
    · show ([.inr (.inr (some (8, 0))), .inl (I1 96 0 (nI i + 1).toNatClampNeg), .inl (I1 96 0 (nI i + 2).toNatClampNeg), .inl (I1 96 0 (nI i + 3).toNatClampNeg)] : List am_V) = [.inr (.inr (some (8, 0))), .inl (I 96 0 (i + 1)), .inl (I 96 0 (i + 2)), .inl (I 96 0 (i + 3))]
      rw [f96, e1, e2, e3]
    · rintro v2 I2 X2 ⟨rfl, hM2, hF2, rfl⟩
      refine am_go 400 ?_
      refine am_t rfl ?_
      refine am_cf rfl ?_
      refine am_cut ?_
      exact K I2 _ _ ⟨RC_F hR1 hF2, hM2, g_which H.2.2 (I 96 0 (i + 1)) (I 96 0 (i + 2)) (I 96 0 (i + 3))⟩ ⟨hF1.2.1, hF1.2.2.1, hF1.2.2.2⟩
set_option maxRecDepth 100000 in
set_option maxHeartbeats 4000000 in
theorem lw_laid {I : Im} {X : am_Z} {s : St} {i L d : Nat} {fs : List am_F} {Q : Option am_V → am_M → Prop} (H : LwH I X s) (hL : X.2.2.2.2.1 = L) (hi : i + 6 ≤ L) (hL2 : L ≤ 3072) (K : ∀ (I' : Im) (X' : am_Z) (s' : St), LwH I' X' s' → LwF X X' → am_WP ((mL_law, 1676, [some (.inr (.inr (some (96, 0)))), some (.inr (.inr (some (7, 0)))), some (.inr (.inr (some (8, 0)))), some (.inl (nI i))], []) :: fs) (d + 701) (mk I' X') Q) : am_WP ((mL_law, 977, [some (.inr (.inr (some (96, 0)))), some (.inr (.inr (some (7, 0)))), some (.inr (.inr (some (8, 0)))), some (.inl (nI i))], []) :: fs) (d + 701) (mk I X) Q := by
  have e1 : (nI i + 1).toNatClampNeg = i + 1 := ix_cl (nI_addE rfl (rfl : (1 : Int32) = nI 1)) (by omega)
  have e2 : (nI i + 2).toNatClampNeg = i + 2 := ix_cl (nI_addE rfl (rfl : (2 : Int32) = nI 2)) (by omega)
  have e3 : (nI i + 3).toNatClampNeg = i + 3 := ix_cl (nI_addE rfl (rfl : (3 : Int32) = nI 3)) (by omega)
  refine am_go 400 ?_
  refine am_f (ix_in (n := i + 1) (N := X.2.2.2.2.1) (nI_addE rfl (rfl : (1 : Int32) = nI 1)) (by omega) (by omega)) ?_
  refine am_f (ix_in (n := i + 2) (N := X.2.2.2.2.1) (nI_addE rfl (rfl : (2 : Int32) = nI 2)) (by omega) (by omega)) ?_
  refine am_f (ix_in (n := i + 3) (N := X.2.2.2.2.1) (nI_addE rfl (rfl : (3 : Int32) = nI 3)) (by omega) (by omega)) ?_
  refine (Sp_as (as' := [.inr (.inr (some (7, 0))), .inl (I 96 0 (i + 1)), .inl (I 96 0 (i + 2)), .inl (I 96 0 (i + 3))]) ?_ (p_X7_laid (d := d + 694) H.1 H.2.2.1 (I 96 0 (i + 1)) (I 96 0 (i + 2)) (I 96 0 (i + 3)))) _ _ _ ?_
  · show ([.inr (.inr (some (7, 0))), .inl (I 96 0 (nI i + 1).toNatClampNeg), .inl (I 96 0 (nI i + 2).toNatClampNeg), .inl (I 96 0 (nI i + 3).toNatClampNeg)] : List am_V) = [.inr (.inr (some (7, 0))), .inl (I 96 0 (i + 1)), .inl (I 96 0 (i + 2)), .inl (I 96 0 (i + 3))]
    rw [e1, e2, e3]
  · rintro v I1 X1 ⟨rfl, hR1, hF1⟩
    have f96 : I1 96 = I 96 := hF1.1 96 rfl
    have fL := hF1.2.1
    refine am_go 400 ?_
    refine am_f (ix_in (n := i + 1) (N := X1.2.2.2.2.1) (nI_addE rfl (rfl : (1 : Int32) = nI 1)) (by omega) (by omega)) ?_
    refine am_f (ix_in (n := i + 2) (N := X1.2.2.2.2.1) (nI_addE rfl (rfl : (2 : Int32) = nI 2)) (by omega) (by omega)) ?_
    refine am_f (ix_in (n := i + 3) (N := X1.2.2.2.2.1) (nI_addE rfl (rfl : (3 : Int32) = nI 3)) (by omega) (by omega)) ?_
    refine (Sp_as (as' := [.inr (.inr (some (8, 0))), .inl (I 96 0 (i + 1)), .inl (I 96 0 (i + 2)), .inl (I 96 0 (i + 3))]) ?_ (p_X8_laid (d := d + 694) (RM_F H.2.1 hF1) H.2.2.1 (I 96 0 (i + 1)) (I 96 0 (i + 2)) (I 96 0 (i + 3)))) _ _ _ ?_
    · show ([.inr (.inr (some (8, 0))), .inl (I1 96 0 (nI i + 1).toNatClampNeg), .inl (I1 96 0 (nI i + 2).toNatClampNeg), .inl (I1 96 0 (nI i + 3).toNatClampNeg)] : List am_V) = [.inr (.inr (some (8, 0))), .inl (I 96 0 (i + 1)), .inl (I 96 0 (i + 2)), .inl (I 96 0 (i + 3))]
      rw [f96, e1, e2, e3]
    · rintro v2 I2 X2 ⟨rfl, hM2, hF2, rfl⟩
      refine am_go 400 ?_
      refine am_t rfl ?_
      refine am_cf rfl ?_
      refine am_cut ?_
      exact K I2 _ _ ⟨RC_F hR1 hF2, hM2, g_laid H.2.2 (I 96 0 (i + 1)) (I 96 0 (i + 2)) (I 96 0 (i + 3))⟩ ⟨hF1.2.1, hF1.2.2.1, hF1.2.2.2⟩
set_option maxRecDepth 100000 in
set_option maxHeartbeats 4000000 in
theorem lw_old {I : Im} {X : am_Z} {s : St} {i L d : Nat} {fs : List am_F} {Q : Option am_V → am_M → Prop} (H : LwH I X s) (hL : X.2.2.2.2.1 = L) (hi : i + 6 ≤ L) (hL2 : L ≤ 3072) (K : ∀ (I' : Im) (X' : am_Z) (s' : St), LwH I' X' s' → LwF X X' → am_WP ((mL_law, 1676, [some (.inr (.inr (some (96, 0)))), some (.inr (.inr (some (7, 0)))), some (.inr (.inr (some (8, 0)))), some (.inl (nI i))], []) :: fs) (d + 701) (mk I' X') Q) : am_WP ((mL_law, 1020, [some (.inr (.inr (some (96, 0)))), some (.inr (.inr (some (7, 0)))), some (.inr (.inr (some (8, 0)))), some (.inl (nI i))], []) :: fs) (d + 701) (mk I X) Q := by
  have e1 : (nI i + 1).toNatClampNeg = i + 1 := ix_cl (nI_addE rfl (rfl : (1 : Int32) = nI 1)) (by omega)
  have e2 : (nI i + 2).toNatClampNeg = i + 2 := ix_cl (nI_addE rfl (rfl : (2 : Int32) = nI 2)) (by omega)
  refine am_go 400 ?_
  refine am_f (ix_in (n := i + 1) (N := X.2.2.2.2.1) (nI_addE rfl (rfl : (1 : Int32) = nI 1)) (by omega) (by omega)) ?_
  refine am_f (ix_in (n := i + 2) (N := X.2.2.2.2.1) (nI_addE rfl (rfl : (2 : Int32) = nI 2)) (by omega) (by omega)) ?_
  refine (Sp_as (as' := [.inr (.inr (some (7, 0))), .inl (I 96 0 (i + 1)), .inl (I 96 0 (i + 2))]) ?_ (p_X7_old (d := d + 696) H.1 H.2.2.1 H.2.2.2 (I 96 0 (i + 1)) (I 96 0 (i + 2)))) _ _ _ ?_
  · show ([.inr (.inr (some (7, 0))), .inl (I 96 0 (nI i + 1).toNatClampNeg), .inl (I 96 0 (nI i + 2).toNatClampNeg)] : List am_V) = [.inr (.inr (some (7, 0))), .inl (I 96 0 (i + 1)), .inl (I 96 0 (i + 2))]
    rw [e1, e2]
  · rintro v I1 X1 ⟨rfl, hR1, hF1⟩
    have f96 : I1 96 = I 96 := hF1.1 96 rfl
    have fL := hF1.2.1
    refine am_go 400 ?_
    refine am_f (ix_in (n := i + 1) (N := X1.2.2.2.2.1) (nI_addE rfl (rfl : (1 : Int32) = nI 1)) (by omega) (by omega)) ?_
    refine am_f (ix_in (n := i + 2) (N := X1.2.2.2.2.1) (nI_addE rfl (rfl : (2 : Int32) = nI 2)) (by omega) (by omega)) ?_
    refine (Sp_as (as' := [.inr (.inr (some (8, 0))), .inl (I 96 0 (i + 1)), .inl (I 96 0 (i + 2))]) ?_ (p_X8_old (d := d + 698) (RM_F H.2.1 hF1) H.2.2.1 H.2.2.2 (I 96 0 (i + 1)) (I 96 0 (i + 2)))) _ _ _ ?_
    · show ([.inr (.inr (some (8, 0))), .inl (I1 96 0 (nI i + 1).toNatClampNeg), .inl (I1 96 0 (nI i + 2).toNatClampNeg)] : List am_V) = [.inr (.inr (some (8, 0))), .inl (I 96 0 (i + 1)), .inl (I 96 0 (i + 2))]
      rw [f96, e1, e2]
    · rintro v2 I2 X2 ⟨rfl, hM2, hF2, rfl⟩
      refine am_go 400 ?_
      refine am_t rfl ?_
      refine am_cf rfl ?_
      refine am_cut ?_
      exact K I2 _ _ ⟨RC_F hR1 hF2, hM2, g_old H.2.2 (I 96 0 (i + 1)) (I 96 0 (i + 2))⟩ ⟨hF1.2.1, hF1.2.2.1, hF1.2.2.2⟩
set_option maxRecDepth 100000 in
set_option maxHeartbeats 4000000 in
theorem lw_fee {I : Im} {X : am_Z} {s : St} {i L d : Nat} {fs : List am_F} {Q : Option am_V → am_M → Prop} (H : LwH I X s) (hL : X.2.2.2.2.1 = L) (hi : i + 6 ≤ L) (hL2 : L ≤ 3072) (K : ∀ (I' : Im) (X' : am_Z) (s' : St), LwH I' X' s' → LwF X X' → am_WP ((mL_law, 1676, [some (.inr (.inr (some (96, 0)))), some (.inr (.inr (some (7, 0)))), some (.inr (.inr (some (8, 0)))), some (.inl (nI i))], []) :: fs) (d + 701) (mk I' X') Q) : am_WP ((mL_law, 1053, [some (.inr (.inr (some (96, 0)))), some (.inr (.inr (some (7, 0)))), some (.inr (.inr (some (8, 0)))), some (.inl (nI i))], []) :: fs) (d + 701) (mk I X) Q := by
  refine am_go 400 ?_
  refine (Sp_as (as' := [.inr (.inr (some (7, 0)))]) ?_ (p_X7_fee (d := d + 697) H.1 H.2.2.1 )) _ _ _ ?_
  · rfl
  · rintro v I1 X1 ⟨rfl, hR1, hF1⟩
    have f96 : I1 96 = I 96 := hF1.1 96 rfl
    have fL := hF1.2.1
    refine am_go 400 ?_
    refine (Sp_as (as' := [.inr (.inr (some (8, 0)))]) ?_ (p_X8_fee (d := d + 698) (RM_F H.2.1 hF1) H.2.2.1 )) _ _ _ ?_
    · rfl
    · rintro v2 I2 X2 ⟨rfl, hM2, hF2, rfl⟩
      refine am_go 400 ?_
      refine am_t rfl ?_
      refine am_cf rfl ?_
      refine am_cut ?_
      exact K I2 _ _ ⟨RC_F hR1 hF2, hM2, g_fee H.2.2 ⟩ ⟨hF1.2.1, hF1.2.2.1, hF1.2.2.2⟩
set_option maxRecDepth 100000 in
set_option maxHeartbeats 4000000 in
theorem lw_fine {I : Im} {X : am_Z} {s : St} {i L d : Nat} {fs : List am_F} {Q : Option am_V → am_M → Prop} (H : LwH I X s) (hL : X.2.2.2.2.1 = L) (hi : i + 6 ≤ L) (hL2 : L ≤ 3072) (K : ∀ (I' : Im) (X' : am_Z) (s' : St), LwH I' X' s' → LwF X X' → am_WP ((mL_law, 1676, [some (.inr (.inr (some (96, 0)))), some (.inr (.inr (some (7, 0)))), some (.inr (.inr (some (8, 0)))), some (.inl (nI i))], []) :: fs) (d + 701) (mk I' X') Q) : am_WP ((mL_law, 1066, [some (.inr (.inr (some (96, 0)))), some (.inr (.inr (some (7, 0)))), some (.inr (.inr (some (8, 0)))), some (.inl (nI i))], []) :: fs) (d + 701) (mk I X) Q := by
  have e1 : (nI i + 1).toNatClampNeg = i + 1 := ix_cl (nI_addE rfl (rfl : (1 : Int32) = nI 1)) (by omega)
  refine am_go 400 ?_
  refine am_f (ix_in (n := i + 1) (N := X.2.2.2.2.1) (nI_addE rfl (rfl : (1 : Int32) = nI 1)) (by omega) (by omega)) ?_
  refine (Sp_as (as' := [.inr (.inr (some (7, 0))), .inl (I 96 0 (i + 1))]) ?_ (p_X7_fine (d := d + 697) H.1 H.2.2.1 (I 96 0 (i + 1)))) _ _ _ ?_
  · show ([.inr (.inr (some (7, 0))), .inl (I 96 0 (nI i + 1).toNatClampNeg)] : List am_V) = [.inr (.inr (some (7, 0))), .inl (I 96 0 (i + 1))]
    rw [e1]
  · rintro v I1 X1 ⟨rfl, hR1, hF1⟩
    have f96 : I1 96 = I 96 := hF1.1 96 rfl
    have fL := hF1.2.1
    refine am_go 400 ?_
    refine am_f (ix_in (n := i + 1) (N := X1.2.2.2.2.1) (nI_addE rfl (rfl : (1 : Int32) = nI 1)) (by omega) (by omega)) ?_
    refine (Sp_as (as' := [.inr (.inr (some (8, 0))), .inl (I 96 0 (i + 1))]) ?_ (p_X8_fine (d := d + 698) (RM_F H.2.1 hF1) H.2.2.1 (I 96 0 (i + 1)))) _ _ _ ?_
    · show ([.inr (.inr (some (8, 0))), .inl (I1 96 0 (nI i + 1).toNatClampNeg)] : List am_V) = [.inr (.inr (some (8, 0))), .inl (I 96 0 (i + 1))]
      rw [f96, e1]
    · rintro v2 I2 X2 ⟨rfl, hM2, hF2, rfl⟩
      refine am_go 400 ?_
      refine am_t rfl ?_
      refine am_cf rfl ?_
      refine am_cut ?_
      exact K I2 _ _ ⟨RC_F hR1 hF2, hM2, g_fine H.2.2 (I 96 0 (i + 1))⟩ ⟨hF1.2.1, hF1.2.2.1, hF1.2.2.2⟩
set_option maxRecDepth 100000 in
set_option maxHeartbeats 4000000 in
theorem lw_feed {I : Im} {X : am_Z} {s : St} {i L d : Nat} {fs : List am_F} {Q : Option am_V → am_M → Prop} (H : LwH I X s) (hL : X.2.2.2.2.1 = L) (hi : i + 6 ≤ L) (hL2 : L ≤ 3072) (K : ∀ (I' : Im) (X' : am_Z) (s' : St), LwH I' X' s' → LwF X X' → am_WP ((mL_law, 1676, [some (.inr (.inr (some (96, 0)))), some (.inr (.inr (some (7, 0)))), some (.inr (.inr (some (8, 0)))), some (.inl (nI i))], []) :: fs) (d + 701) (mk I' X') Q) : am_WP ((mL_law, 1089, [some (.inr (.inr (some (96, 0)))), some (.inr (.inr (some (7, 0)))), some (.inr (.inr (some (8, 0)))), some (.inl (nI i))], []) :: fs) (d + 701) (mk I X) Q := by
  have e1 : (nI i + 1).toNatClampNeg = i + 1 := ix_cl (nI_addE rfl (rfl : (1 : Int32) = nI 1)) (by omega)
  have e2 : (nI i + 2).toNatClampNeg = i + 2 := ix_cl (nI_addE rfl (rfl : (2 : Int32) = nI 2)) (by omega)
  have e3 : (nI i + 3).toNatClampNeg = i + 3 := ix_cl (nI_addE rfl (rfl : (3 : Int32) = nI 3)) (by omega)
  refine am_go 400 ?_
  refine am_f (ix_in (n := i + 1) (N := X.2.2.2.2.1) (nI_addE rfl (rfl : (1 : Int32) = nI 1)) (by omega) (by omega)) ?_
  refine am_f (ix_in (n := i + 2) (N := X.2.2.2.2.1) (nI_addE rfl (rfl : (2 : Int32) = nI 2)) (by omega) (by omega)) ?_
  refine am_f (ix_in (n := i + 3) (N := X.2.2.2.2.1) (nI_addE rfl (rfl : (3 : Int32) = nI 3)) (by omega) (by omega)) ?_
  refine (Sp_as (as' := [.inr (.inr (some (7, 0))), .inl (I 96 0 (i + 1)), .inl (I 96 0 (i + 2)), .inl (I 96 0 (i + 3))]) ?_ (p_X7_feed (d := d + 699) H.1 H.2.2.1 (I 96 0 (i + 1)) (I 96 0 (i + 2)) (I 96 0 (i + 3)))) _ _ _ ?_
  · show ([.inr (.inr (some (7, 0))), .inl (I 96 0 (nI i + 1).toNatClampNeg), .inl (I 96 0 (nI i + 2).toNatClampNeg), .inl (I 96 0 (nI i + 3).toNatClampNeg)] : List am_V) = [.inr (.inr (some (7, 0))), .inl (I 96 0 (i + 1)), .inl (I 96 0 (i + 2)), .inl (I 96 0 (i + 3))]
    rw [e1, e2, e3]
  · rintro v I1 X1 ⟨rfl, hR1, hF1⟩
    have f96 : I1 96 = I 96 := hF1.1 96 rfl
    have fL := hF1.2.1
    refine am_go 400 ?_
    refine am_f (ix_in (n := i + 1) (N := X1.2.2.2.2.1) (nI_addE rfl (rfl : (1 : Int32) = nI 1)) (by omega) (by omega)) ?_
    refine am_f (ix_in (n := i + 2) (N := X1.2.2.2.2.1) (nI_addE rfl (rfl : (2 : Int32) = nI 2)) (by omega) (by omega)) ?_
    refine am_f (ix_in (n := i + 3) (N := X1.2.2.2.2.1) (nI_addE rfl (rfl : (3 : Int32) = nI 3)) (by omega) (by omega)) ?_
    refine (Sp_as (as' := [.inr (.inr (some (8, 0))), .inl (I 96 0 (i + 1)), .inl (I 96 0 (i + 2)), .inl (I 96 0 (i + 3))]) ?_ (p_X8_feed (d := d + 700) (RM_F H.2.1 hF1) H.2.2.1 (I 96 0 (i + 1)) (I 96 0 (i + 2)) (I 96 0 (i + 3)))) _ _ _ ?_
    · show ([.inr (.inr (some (8, 0))), .inl (I1 96 0 (nI i + 1).toNatClampNeg), .inl (I1 96 0 (nI i + 2).toNatClampNeg), .inl (I1 96 0 (nI i + 3).toNatClampNeg)] : List am_V) = [.inr (.inr (some (8, 0))), .inl (I 96 0 (i + 1)), .inl (I 96 0 (i + 2)), .inl (I 96 0 (i + 3))]
      rw [f96, e1, e2, e3]
    · rintro v2 I2 X2 ⟨rfl, hM2, hF2, rfl⟩
      refine am_go 400 ?_
      refine am_t rfl ?_
      refine am_cf rfl ?_
      refine am_cut ?_
      exact K I2 _ _ ⟨RC_F hR1 hF2, hM2, g_feed H.2.2 (I 96 0 (i + 1)) (I 96 0 (i + 2)) (I 96 0 (i + 3))⟩ ⟨hF1.2.1, hF1.2.2.1, hF1.2.2.2⟩
set_option maxRecDepth 100000 in
set_option maxHeartbeats 4000000 in
theorem lw_trim {I : Im} {X : am_Z} {s : St} {i L d : Nat} {fs : List am_F} {Q : Option am_V → am_M → Prop} (H : LwH I X s) (hL : X.2.2.2.2.1 = L) (hi : i + 6 ≤ L) (hL2 : L ≤ 3072) (K : ∀ (I' : Im) (X' : am_Z) (s' : St), LwH I' X' s' → LwF X X' → am_WP ((mL_law, 1676, [some (.inr (.inr (some (96, 0)))), some (.inr (.inr (some (7, 0)))), some (.inr (.inr (some (8, 0)))), some (.inl (nI i))], []) :: fs) (d + 701) (mk I' X') Q) : am_WP ((mL_law, 1132, [some (.inr (.inr (some (96, 0)))), some (.inr (.inr (some (7, 0)))), some (.inr (.inr (some (8, 0)))), some (.inl (nI i))], []) :: fs) (d + 701) (mk I X) Q := by
  have e1 : (nI i + 1).toNatClampNeg = i + 1 := ix_cl (nI_addE rfl (rfl : (1 : Int32) = nI 1)) (by omega)
  refine am_go 400 ?_
  refine am_f (ix_in (n := i + 1) (N := X.2.2.2.2.1) (nI_addE rfl (rfl : (1 : Int32) = nI 1)) (by omega) (by omega)) ?_
  refine (Sp_as (as' := [.inr (.inr (some (7, 0))), .inl (I 96 0 (i + 1))]) ?_ (p_X7_trim (d := d + 699) H.1 H.2.2.1 (I 96 0 (i + 1)))) _ _ _ ?_
  · show ([.inr (.inr (some (7, 0))), .inl (I 96 0 (nI i + 1).toNatClampNeg)] : List am_V) = [.inr (.inr (some (7, 0))), .inl (I 96 0 (i + 1))]
    rw [e1]
  · rintro v I1 X1 ⟨rfl, hR1, hF1⟩
    have f96 : I1 96 = I 96 := hF1.1 96 rfl
    have fL := hF1.2.1
    refine am_go 400 ?_
    refine am_f (ix_in (n := i + 1) (N := X1.2.2.2.2.1) (nI_addE rfl (rfl : (1 : Int32) = nI 1)) (by omega) (by omega)) ?_
    refine (Sp_as (as' := [.inr (.inr (some (8, 0))), .inl (I 96 0 (i + 1))]) ?_ (p_X8_trim (d := d + 699) (RM_F H.2.1 hF1) H.2.2.1 (I 96 0 (i + 1)))) _ _ _ ?_
    · show ([.inr (.inr (some (8, 0))), .inl (I1 96 0 (nI i + 1).toNatClampNeg)] : List am_V) = [.inr (.inr (some (8, 0))), .inl (I 96 0 (i + 1))]
      rw [f96, e1]
    · rintro v2 I2 X2 ⟨rfl, hM2, hF2, rfl⟩
      refine am_go 400 ?_
      refine am_t rfl ?_
      refine am_cf rfl ?_
      refine am_cut ?_
      exact K I2 _ _ ⟨RC_F hR1 hF2, hM2, g_trim H.2.2 (I 96 0 (i + 1))⟩ ⟨hF1.2.1, hF1.2.2.1, hF1.2.2.2⟩
set_option maxRecDepth 100000 in
set_option maxHeartbeats 4000000 in
theorem lw_text {I : Im} {X : am_Z} {s : St} {i L d : Nat} {fs : List am_F} {Q : Option am_V → am_M → Prop} (H : LwH I X s) (hL : X.2.2.2.2.1 = L) (hi : i + 6 ≤ L) (hL2 : L ≤ 3072) (K : ∀ (I' : Im) (X' : am_Z) (s' : St), LwH I' X' s' → LwF X X' → am_WP ((mL_law, 1676, [some (.inr (.inr (some (96, 0)))), some (.inr (.inr (some (7, 0)))), some (.inr (.inr (some (8, 0)))), some (.inl (nI i))], []) :: fs) (d + 701) (mk I' X') Q) : am_WP ((mL_law, 1155, [some (.inr (.inr (some (96, 0)))), some (.inr (.inr (some (7, 0)))), some (.inr (.inr (some (8, 0)))), some (.inl (nI i))], []) :: fs) (d + 701) (mk I X) Q := by
  refine am_go 400 ?_
  refine (Sp_as (as' := [.inr (.inr (some (7, 0)))]) ?_ (p_X7_text (d := d + 0) H.1 H.2.2.1 )) _ _ _ ?_
  · rfl
  · rintro v I1 X1 ⟨rfl, hR1, hF1⟩
    have f96 : I1 96 = I 96 := hF1.1 96 rfl
    have fL := hF1.2.1
    refine am_go 400 ?_
    refine (Sp_as (as' := [.inr (.inr (some (8, 0)))]) ?_ (p_X8_text (d := d + 0) (RM_F H.2.1 hF1) H.2.2.1 )) _ _ _ ?_
    · rfl
    · rintro v2 I2 X2 ⟨rfl, hM2, hF2, rfl⟩
      refine am_go 400 ?_
      refine am_t rfl ?_
      refine am_cf rfl ?_
      refine am_cut ?_
      exact K I2 _ _ ⟨RC_F hR1 hF2, hM2, g_text H.2.2 ⟩ ⟨hF1.2.1, hF1.2.2.1, hF1.2.2.2⟩
set_option maxRecDepth 100000 in
set_option maxHeartbeats 4000000 in
theorem lw_textTold {I : Im} {X : am_Z} {s : St} {i L d : Nat} {fs : List am_F} {Q : Option am_V → am_M → Prop} (H : LwH I X s) (hL : X.2.2.2.2.1 = L) (hi : i + 6 ≤ L) (hL2 : L ≤ 3072) (K : ∀ (I' : Im) (X' : am_Z) (s' : St), LwH I' X' s' → LwF X X' → am_WP ((mL_law, 1676, [some (.inr (.inr (some (96, 0)))), some (.inr (.inr (some (7, 0)))), some (.inr (.inr (some (8, 0)))), some (.inl (nI i))], []) :: fs) (d + 701) (mk I' X') Q) : am_WP ((mL_law, 1168, [some (.inr (.inr (some (96, 0)))), some (.inr (.inr (some (7, 0)))), some (.inr (.inr (some (8, 0)))), some (.inl (nI i))], []) :: fs) (d + 701) (mk I X) Q := by
  have e1 : (nI i + 1).toNatClampNeg = i + 1 := ix_cl (nI_addE rfl (rfl : (1 : Int32) = nI 1)) (by omega)
  have e2 : (nI i + 2).toNatClampNeg = i + 2 := ix_cl (nI_addE rfl (rfl : (2 : Int32) = nI 2)) (by omega)
  refine am_go 400 ?_
  refine am_f (ix_in (n := i + 1) (N := X.2.2.2.2.1) (nI_addE rfl (rfl : (1 : Int32) = nI 1)) (by omega) (by omega)) ?_
  refine am_f (ix_in (n := i + 2) (N := X.2.2.2.2.1) (nI_addE rfl (rfl : (2 : Int32) = nI 2)) (by omega) (by omega)) ?_
  refine (Sp_as (as' := [.inr (.inr (some (7, 0))), .inl (I 96 0 (i + 1)), .inl (I 96 0 (i + 2))]) ?_ (p_X7_textTold (d := d + 699) H.1 H.2.2.1 (I 96 0 (i + 1)) (I 96 0 (i + 2)))) _ _ _ ?_
  · show ([.inr (.inr (some (7, 0))), .inl (I 96 0 (nI i + 1).toNatClampNeg), .inl (I 96 0 (nI i + 2).toNatClampNeg)] : List am_V) = [.inr (.inr (some (7, 0))), .inl (I 96 0 (i + 1)), .inl (I 96 0 (i + 2))]
    rw [e1, e2]
  · rintro v I1 X1 ⟨rfl, hR1, hF1⟩
    have f96 : I1 96 = I 96 := hF1.1 96 rfl
    have fL := hF1.2.1
    refine am_go 400 ?_
    refine am_f (ix_in (n := i + 1) (N := X1.2.2.2.2.1) (nI_addE rfl (rfl : (1 : Int32) = nI 1)) (by omega) (by omega)) ?_
    refine am_f (ix_in (n := i + 2) (N := X1.2.2.2.2.1) (nI_addE rfl (rfl : (2 : Int32) = nI 2)) (by omega) (by omega)) ?_
    refine (Sp_as (as' := [.inr (.inr (some (8, 0))), .inl (I 96 0 (i + 1)), .inl (I 96 0 (i + 2))]) ?_ (p_X8_textTold (d := d + 698) (RM_F H.2.1 hF1) H.2.2.1 (I 96 0 (i + 1)) (I 96 0 (i + 2)))) _ _ _ ?_
    · show ([.inr (.inr (some (8, 0))), .inl (I1 96 0 (nI i + 1).toNatClampNeg), .inl (I1 96 0 (nI i + 2).toNatClampNeg)] : List am_V) = [.inr (.inr (some (8, 0))), .inl (I 96 0 (i + 1)), .inl (I 96 0 (i + 2))]
      rw [f96, e1, e2]
    · rintro v2 I2 X2 ⟨rfl, hM2, hF2, rfl⟩
      refine am_go 400 ?_
      refine am_t rfl ?_
      refine am_cf rfl ?_
      refine am_cut ?_
      exact K I2 _ _ ⟨RC_F hR1 hF2, hM2, g_textTold H.2.2 (I 96 0 (i + 1)) (I 96 0 (i + 2))⟩ ⟨hF1.2.1, hF1.2.2.1, hF1.2.2.2⟩
set_option maxRecDepth 100000 in
set_option maxHeartbeats 4000000 in
theorem lw_why {I : Im} {X : am_Z} {s : St} {i L d : Nat} {fs : List am_F} {Q : Option am_V → am_M → Prop} (H : LwH I X s) (hL : X.2.2.2.2.1 = L) (hi : i + 6 ≤ L) (hL2 : L ≤ 3072) (K : ∀ (I' : Im) (X' : am_Z) (s' : St), LwH I' X' s' → LwF X X' → am_WP ((mL_law, 1676, [some (.inr (.inr (some (96, 0)))), some (.inr (.inr (some (7, 0)))), some (.inr (.inr (some (8, 0)))), some (.inl (nI i))], []) :: fs) (d + 701) (mk I' X') Q) : am_WP ((mL_law, 1201, [some (.inr (.inr (some (96, 0)))), some (.inr (.inr (some (7, 0)))), some (.inr (.inr (some (8, 0)))), some (.inl (nI i))], []) :: fs) (d + 701) (mk I X) Q := by
  have e1 : (nI i + 1).toNatClampNeg = i + 1 := ix_cl (nI_addE rfl (rfl : (1 : Int32) = nI 1)) (by omega)
  refine am_go 400 ?_
  refine am_f (ix_in (n := i + 1) (N := X.2.2.2.2.1) (nI_addE rfl (rfl : (1 : Int32) = nI 1)) (by omega) (by omega)) ?_
  refine (Sp_as (as' := [.inr (.inr (some (7, 0))), .inl (I 96 0 (i + 1))]) ?_ (p_X7_why (d := d + 699) H.1 H.2.2.1 (I 96 0 (i + 1)))) _ _ _ ?_
  · show ([.inr (.inr (some (7, 0))), .inl (I 96 0 (nI i + 1).toNatClampNeg)] : List am_V) = [.inr (.inr (some (7, 0))), .inl (I 96 0 (i + 1))]
    rw [e1]
  · rintro v I1 X1 ⟨rfl, hR1, hF1⟩
    have f96 : I1 96 = I 96 := hF1.1 96 rfl
    have fL := hF1.2.1
    refine am_go 400 ?_
    refine am_f (ix_in (n := i + 1) (N := X1.2.2.2.2.1) (nI_addE rfl (rfl : (1 : Int32) = nI 1)) (by omega) (by omega)) ?_
    refine (Sp_as (as' := [.inr (.inr (some (8, 0))), .inl (I 96 0 (i + 1))]) ?_ (p_X8_why (d := d + 698) (RM_F H.2.1 hF1) H.2.2.1 (I 96 0 (i + 1)))) _ _ _ ?_
    · show ([.inr (.inr (some (8, 0))), .inl (I1 96 0 (nI i + 1).toNatClampNeg)] : List am_V) = [.inr (.inr (some (8, 0))), .inl (I 96 0 (i + 1))]
      rw [f96, e1]
    · rintro v2 I2 X2 ⟨rfl, hM2, hF2, rfl⟩
      refine am_go 400 ?_
      refine am_t rfl ?_
      refine am_cf rfl ?_
      refine am_cut ?_
      exact K I2 _ _ ⟨RC_F hR1 hF2, hM2, g_why H.2.2 (I 96 0 (i + 1))⟩ ⟨hF1.2.1, hF1.2.2.1, hF1.2.2.2⟩
set_option maxRecDepth 100000 in
set_option maxHeartbeats 4000000 in
theorem lw_sheet {I : Im} {X : am_Z} {s : St} {i L d : Nat} {fs : List am_F} {Q : Option am_V → am_M → Prop} (H : LwH I X s) (hL : X.2.2.2.2.1 = L) (hi : i + 6 ≤ L) (hL2 : L ≤ 3072) (K : ∀ (I' : Im) (X' : am_Z) (s' : St), LwH I' X' s' → LwF X X' → am_WP ((mL_law, 1676, [some (.inr (.inr (some (96, 0)))), some (.inr (.inr (some (7, 0)))), some (.inr (.inr (some (8, 0)))), some (.inl (nI i))], []) :: fs) (d + 701) (mk I' X') Q) : am_WP ((mL_law, 1224, [some (.inr (.inr (some (96, 0)))), some (.inr (.inr (some (7, 0)))), some (.inr (.inr (some (8, 0)))), some (.inl (nI i))], []) :: fs) (d + 701) (mk I X) Q := by
  have e1 : (nI i + 1).toNatClampNeg = i + 1 := ix_cl (nI_addE rfl (rfl : (1 : Int32) = nI 1)) (by omega)
  have e2 : (nI i + 2).toNatClampNeg = i + 2 := ix_cl (nI_addE rfl (rfl : (2 : Int32) = nI 2)) (by omega)
  have e3 : (nI i + 3).toNatClampNeg = i + 3 := ix_cl (nI_addE rfl (rfl : (3 : Int32) = nI 3)) (by omega)
  refine am_go 400 ?_
  refine am_f (ix_in (n := i + 1) (N := X.2.2.2.2.1) (nI_addE rfl (rfl : (1 : Int32) = nI 1)) (by omega) (by omega)) ?_
  refine am_f (ix_in (n := i + 2) (N := X.2.2.2.2.1) (nI_addE rfl (rfl : (2 : Int32) = nI 2)) (by omega) (by omega)) ?_
  refine am_f (ix_in (n := i + 3) (N := X.2.2.2.2.1) (nI_addE rfl (rfl : (3 : Int32) = nI 3)) (by omega) (by omega)) ?_
  refine (Sp_as (as' := [.inr (.inr (some (7, 0))), .inl (I 96 0 (i + 1)), .inl (I 96 0 (i + 2)), .inl (I 96 0 (i + 3))]) ?_ (p_X7_sheet (d := d + 698) H.1 H.2.2.1 (I 96 0 (i + 1)) (I 96 0 (i + 2)) (I 96 0 (i + 3)))) _ _ _ ?_
  · show ([.inr (.inr (some (7, 0))), .inl (I 96 0 (nI i + 1).toNatClampNeg), .inl (I 96 0 (nI i + 2).toNatClampNeg), .inl (I 96 0 (nI i + 3).toNatClampNeg)] : List am_V) = [.inr (.inr (some (7, 0))), .inl (I 96 0 (i + 1)), .inl (I 96 0 (i + 2)), .inl (I 96 0 (i + 3))]
    rw [e1, e2, e3]
  · rintro v I1 X1 ⟨rfl, hR1, hF1⟩
    have f96 : I1 96 = I 96 := hF1.1 96 rfl
    have fL := hF1.2.1
    refine am_go 400 ?_
    refine am_f (ix_in (n := i + 1) (N := X1.2.2.2.2.1) (nI_addE rfl (rfl : (1 : Int32) = nI 1)) (by omega) (by omega)) ?_
    refine am_f (ix_in (n := i + 2) (N := X1.2.2.2.2.1) (nI_addE rfl (rfl : (2 : Int32) = nI 2)) (by omega) (by omega)) ?_
    refine am_f (ix_in (n := i + 3) (N := X1.2.2.2.2.1) (nI_addE rfl (rfl : (3 : Int32) = nI 3)) (by omega) (by omega)) ?_
    refine (Sp_as (as' := [.inr (.inr (some (8, 0))), .inl (I 96 0 (i + 1)), .inl (I 96 0 (i + 2)), .inl (I 96 0 (i + 3))]) ?_ (p_X8_sheet (d := d + 698) (RM_F H.2.1 hF1) H.2.2.1 (I 96 0 (i + 1)) (I 96 0 (i + 2)) (I 96 0 (i + 3)))) _ _ _ ?_
    · show ([.inr (.inr (some (8, 0))), .inl (I1 96 0 (nI i + 1).toNatClampNeg), .inl (I1 96 0 (nI i + 2).toNatClampNeg), .inl (I1 96 0 (nI i + 3).toNatClampNeg)] : List am_V) = [.inr (.inr (some (8, 0))), .inl (I 96 0 (i + 1)), .inl (I 96 0 (i + 2)), .inl (I 96 0 (i + 3))]
      rw [f96, e1, e2, e3]
    · rintro v2 I2 X2 ⟨rfl, hM2, hF2, rfl⟩
      refine am_go 400 ?_
      refine am_t rfl ?_
      refine am_cf rfl ?_
      refine am_cut ?_
      exact K I2 _ _ ⟨RC_F hR1 hF2, hM2, g_sheet H.2.2 (I 96 0 (i + 1)) (I 96 0 (i + 2)) (I 96 0 (i + 3))⟩ ⟨hF1.2.1, hF1.2.2.1, hF1.2.2.2⟩
set_option maxRecDepth 100000 in
set_option maxHeartbeats 4000000 in
theorem lw_mark {I : Im} {X : am_Z} {s : St} {i L d : Nat} {fs : List am_F} {Q : Option am_V → am_M → Prop} (H : LwH I X s) (hL : X.2.2.2.2.1 = L) (hi : i + 6 ≤ L) (hL2 : L ≤ 3072) (K : ∀ (I' : Im) (X' : am_Z) (s' : St), LwH I' X' s' → LwF X X' → am_WP ((mL_law, 1676, [some (.inr (.inr (some (96, 0)))), some (.inr (.inr (some (7, 0)))), some (.inr (.inr (some (8, 0)))), some (.inl (nI i))], []) :: fs) (d + 701) (mk I' X') Q) : am_WP ((mL_law, 1267, [some (.inr (.inr (some (96, 0)))), some (.inr (.inr (some (7, 0)))), some (.inr (.inr (some (8, 0)))), some (.inl (nI i))], []) :: fs) (d + 701) (mk I X) Q := by
  have e1 : (nI i + 1).toNatClampNeg = i + 1 := ix_cl (nI_addE rfl (rfl : (1 : Int32) = nI 1)) (by omega)
  have e2 : (nI i + 2).toNatClampNeg = i + 2 := ix_cl (nI_addE rfl (rfl : (2 : Int32) = nI 2)) (by omega)
  have e3 : (nI i + 3).toNatClampNeg = i + 3 := ix_cl (nI_addE rfl (rfl : (3 : Int32) = nI 3)) (by omega)
  refine am_go 400 ?_
  refine am_f (ix_in (n := i + 1) (N := X.2.2.2.2.1) (nI_addE rfl (rfl : (1 : Int32) = nI 1)) (by omega) (by omega)) ?_
  refine am_f (ix_in (n := i + 2) (N := X.2.2.2.2.1) (nI_addE rfl (rfl : (2 : Int32) = nI 2)) (by omega) (by omega)) ?_
  refine am_f (ix_in (n := i + 3) (N := X.2.2.2.2.1) (nI_addE rfl (rfl : (3 : Int32) = nI 3)) (by omega) (by omega)) ?_
  refine (Sp_as (as' := [.inr (.inr (some (7, 0))), .inl (I 96 0 (i + 1)), .inl (I 96 0 (i + 2)), .inl (I 96 0 (i + 3))]) ?_ (p_X7_mark (d := d + 698) H.1 H.2.2.1 (I 96 0 (i + 1)) (I 96 0 (i + 2)) (I 96 0 (i + 3)))) _ _ _ ?_
  · show ([.inr (.inr (some (7, 0))), .inl (I 96 0 (nI i + 1).toNatClampNeg), .inl (I 96 0 (nI i + 2).toNatClampNeg), .inl (I 96 0 (nI i + 3).toNatClampNeg)] : List am_V) = [.inr (.inr (some (7, 0))), .inl (I 96 0 (i + 1)), .inl (I 96 0 (i + 2)), .inl (I 96 0 (i + 3))]
    rw [e1, e2, e3]
  · rintro v I1 X1 ⟨rfl, hR1, hF1⟩
    have f96 : I1 96 = I 96 := hF1.1 96 rfl
    have fL := hF1.2.1
    refine am_go 400 ?_
    refine am_f (ix_in (n := i + 1) (N := X1.2.2.2.2.1) (nI_addE rfl (rfl : (1 : Int32) = nI 1)) (by omega) (by omega)) ?_
    refine am_f (ix_in (n := i + 2) (N := X1.2.2.2.2.1) (nI_addE rfl (rfl : (2 : Int32) = nI 2)) (by omega) (by omega)) ?_
    refine am_f (ix_in (n := i + 3) (N := X1.2.2.2.2.1) (nI_addE rfl (rfl : (3 : Int32) = nI 3)) (by omega) (by omega)) ?_
    refine (Sp_as (as' := [.inr (.inr (some (8, 0))), .inl (I 96 0 (i + 1)), .inl (I 96 0 (i + 2)), .inl (I 96 0 (i + 3))]) ?_ (p_X8_mark (d := d + 698) (RM_F H.2.1 hF1) H.2.2.1 (I 96 0 (i + 1)) (I 96 0 (i + 2)) (I 96 0 (i + 3)))) _ _ _ ?_
    · show ([.inr (.inr (some (8, 0))), .inl (I1 96 0 (nI i + 1).toNatClampNeg), .inl (I1 96 0 (nI i + 2).toNatClampNeg), .inl (I1 96 0 (nI i + 3).toNatClampNeg)] : List am_V) = [.inr (.inr (some (8, 0))), .inl (I 96 0 (i + 1)), .inl (I 96 0 (i + 2)), .inl (I 96 0 (i + 3))]
      rw [f96, e1, e2, e3]
    · rintro v2 I2 X2 ⟨rfl, hM2, hF2, rfl⟩
      refine am_go 400 ?_
      refine am_t rfl ?_
      refine am_cf rfl ?_
      refine am_cut ?_
      exact K I2 _ _ ⟨RC_F hR1 hF2, hM2, g_mark H.2.2 (I 96 0 (i + 1)) (I 96 0 (i + 2)) (I 96 0 (i + 3))⟩ ⟨hF1.2.1, hF1.2.2.1, hF1.2.2.2⟩
set_option maxRecDepth 100000 in
set_option maxHeartbeats 4000000 in
theorem lw_pour {I : Im} {X : am_Z} {s : St} {i L d : Nat} {fs : List am_F} {Q : Option am_V → am_M → Prop} (H : LwH I X s) (hL : X.2.2.2.2.1 = L) (hi : i + 6 ≤ L) (hL2 : L ≤ 3072) (K : ∀ (I' : Im) (X' : am_Z) (s' : St), LwH I' X' s' → LwF X X' → am_WP ((mL_law, 1676, [some (.inr (.inr (some (96, 0)))), some (.inr (.inr (some (7, 0)))), some (.inr (.inr (some (8, 0)))), some (.inl (nI i))], []) :: fs) (d + 701) (mk I' X') Q) : am_WP ((mL_law, 1310, [some (.inr (.inr (some (96, 0)))), some (.inr (.inr (some (7, 0)))), some (.inr (.inr (some (8, 0)))), some (.inl (nI i))], []) :: fs) (d + 701) (mk I X) Q := by
  have e1 : (nI i + 1).toNatClampNeg = i + 1 := ix_cl (nI_addE rfl (rfl : (1 : Int32) = nI 1)) (by omega)
  have e2 : (nI i + 2).toNatClampNeg = i + 2 := ix_cl (nI_addE rfl (rfl : (2 : Int32) = nI 2)) (by omega)
  refine am_go 400 ?_
  refine am_f (ix_in (n := i + 1) (N := X.2.2.2.2.1) (nI_addE rfl (rfl : (1 : Int32) = nI 1)) (by omega) (by omega)) ?_
  refine am_f (ix_in (n := i + 2) (N := X.2.2.2.2.1) (nI_addE rfl (rfl : (2 : Int32) = nI 2)) (by omega) (by omega)) ?_
  refine (Sp_as (as' := [.inr (.inr (some (7, 0))), .inl (I 96 0 (i + 1)), .inl (I 96 0 (i + 2))]) ?_ (p_X7_pour (d := d + 697) H.1 H.2.2.1 (I 96 0 (i + 1)) (I 96 0 (i + 2)))) _ _ _ ?_
  · show ([.inr (.inr (some (7, 0))), .inl (I 96 0 (nI i + 1).toNatClampNeg), .inl (I 96 0 (nI i + 2).toNatClampNeg)] : List am_V) = [.inr (.inr (some (7, 0))), .inl (I 96 0 (i + 1)), .inl (I 96 0 (i + 2))]
    rw [e1, e2]
  · rintro v I1 X1 ⟨rfl, hR1, hF1⟩
    have f96 : I1 96 = I 96 := hF1.1 96 rfl
    have fL := hF1.2.1
    refine am_go 400 ?_
    refine am_f (ix_in (n := i + 1) (N := X1.2.2.2.2.1) (nI_addE rfl (rfl : (1 : Int32) = nI 1)) (by omega) (by omega)) ?_
    refine am_f (ix_in (n := i + 2) (N := X1.2.2.2.2.1) (nI_addE rfl (rfl : (2 : Int32) = nI 2)) (by omega) (by omega)) ?_
    refine (Sp_as (as' := [.inr (.inr (some (8, 0))), .inl (I 96 0 (i + 1)), .inl (I 96 0 (i + 2))]) ?_ (p_X8_pour (d := d + 698) (RM_F H.2.1 hF1) H.2.2.1 (I 96 0 (i + 1)) (I 96 0 (i + 2)))) _ _ _ ?_
    · show ([.inr (.inr (some (8, 0))), .inl (I1 96 0 (nI i + 1).toNatClampNeg), .inl (I1 96 0 (nI i + 2).toNatClampNeg)] : List am_V) = [.inr (.inr (some (8, 0))), .inl (I 96 0 (i + 1)), .inl (I 96 0 (i + 2))]
      rw [f96, e1, e2]
    · rintro v2 I2 X2 ⟨rfl, hM2, hF2, rfl⟩
      refine am_go 400 ?_
      refine am_t rfl ?_
      refine am_cf rfl ?_
      refine am_cut ?_
      exact K I2 _ _ ⟨RC_F hR1 hF2, hM2, g_pour H.2.2 (I 96 0 (i + 1)) (I 96 0 (i + 2))⟩ ⟨hF1.2.1, hF1.2.2.1, hF1.2.2.2⟩
set_option maxRecDepth 100000 in
set_option maxHeartbeats 4000000 in
theorem lw_reads {I : Im} {X : am_Z} {s : St} {i L d : Nat} {fs : List am_F} {Q : Option am_V → am_M → Prop} (H : LwH I X s) (hL : X.2.2.2.2.1 = L) (hi : i + 6 ≤ L) (hL2 : L ≤ 3072) (K : ∀ (I' : Im) (X' : am_Z) (s' : St), LwH I' X' s' → LwF X X' → am_WP ((mL_law, 1676, [some (.inr (.inr (some (96, 0)))), some (.inr (.inr (some (7, 0)))), some (.inr (.inr (some (8, 0)))), some (.inl (nI i))], []) :: fs) (d + 701) (mk I' X') Q) : am_WP ((mL_law, 1343, [some (.inr (.inr (some (96, 0)))), some (.inr (.inr (some (7, 0)))), some (.inr (.inr (some (8, 0)))), some (.inl (nI i))], []) :: fs) (d + 701) (mk I X) Q := by
  have e1 : (nI i + 1).toNatClampNeg = i + 1 := ix_cl (nI_addE rfl (rfl : (1 : Int32) = nI 1)) (by omega)
  have e2 : (nI i + 2).toNatClampNeg = i + 2 := ix_cl (nI_addE rfl (rfl : (2 : Int32) = nI 2)) (by omega)
  refine am_go 400 ?_
  refine am_f (ix_in (n := i + 1) (N := X.2.2.2.2.1) (nI_addE rfl (rfl : (1 : Int32) = nI 1)) (by omega) (by omega)) ?_
  refine am_f (ix_in (n := i + 2) (N := X.2.2.2.2.1) (nI_addE rfl (rfl : (2 : Int32) = nI 2)) (by omega) (by omega)) ?_
  refine (Sp_as (as' := [.inr (.inr (some (7, 0))), .inl (I 96 0 (i + 1)), .inl (I 96 0 (i + 2))]) ?_ (p_X7_reads (d := d + 697) H.1 H.2.2.1 (I 96 0 (i + 1)) (I 96 0 (i + 2)))) _ _ _ ?_
  · show ([.inr (.inr (some (7, 0))), .inl (I 96 0 (nI i + 1).toNatClampNeg), .inl (I 96 0 (nI i + 2).toNatClampNeg)] : List am_V) = [.inr (.inr (some (7, 0))), .inl (I 96 0 (i + 1)), .inl (I 96 0 (i + 2))]
    rw [e1, e2]
  · rintro v I1 X1 ⟨rfl, hR1, hF1⟩
    have f96 : I1 96 = I 96 := hF1.1 96 rfl
    have fL := hF1.2.1
    refine am_go 400 ?_
    refine am_f (ix_in (n := i + 1) (N := X1.2.2.2.2.1) (nI_addE rfl (rfl : (1 : Int32) = nI 1)) (by omega) (by omega)) ?_
    refine am_f (ix_in (n := i + 2) (N := X1.2.2.2.2.1) (nI_addE rfl (rfl : (2 : Int32) = nI 2)) (by omega) (by omega)) ?_
    refine (Sp_as (as' := [.inr (.inr (some (8, 0))), .inl (I 96 0 (i + 1)), .inl (I 96 0 (i + 2))]) ?_ (p_X8_reads (d := d + 698) (RM_F H.2.1 hF1) H.2.2.1 (I 96 0 (i + 1)) (I 96 0 (i + 2)))) _ _ _ ?_
    · show ([.inr (.inr (some (8, 0))), .inl (I1 96 0 (nI i + 1).toNatClampNeg), .inl (I1 96 0 (nI i + 2).toNatClampNeg)] : List am_V) = [.inr (.inr (some (8, 0))), .inl (I 96 0 (i + 1)), .inl (I 96 0 (i + 2))]
      rw [f96, e1, e2]
    · rintro v2 I2 X2 ⟨rfl, hM2, hF2, rfl⟩
      refine am_go 400 ?_
      refine am_t rfl ?_
      refine am_cf rfl ?_
      refine am_cut ?_
      exact K I2 _ _ ⟨RC_F hR1 hF2, hM2, g_reads H.2.2 (I 96 0 (i + 1)) (I 96 0 (i + 2))⟩ ⟨hF1.2.1, hF1.2.2.1, hF1.2.2.2⟩
set_option maxRecDepth 100000 in
set_option maxHeartbeats 4000000 in
theorem lw_copy {I : Im} {X : am_Z} {s : St} {i L d : Nat} {fs : List am_F} {Q : Option am_V → am_M → Prop} (H : LwH I X s) (hL : X.2.2.2.2.1 = L) (hi : i + 6 ≤ L) (hL2 : L ≤ 3072) (K : ∀ (I' : Im) (X' : am_Z) (s' : St), LwH I' X' s' → LwF X X' → am_WP ((mL_law, 1676, [some (.inr (.inr (some (96, 0)))), some (.inr (.inr (some (7, 0)))), some (.inr (.inr (some (8, 0)))), some (.inl (nI i))], []) :: fs) (d + 701) (mk I' X') Q) : am_WP ((mL_law, 1376, [some (.inr (.inr (some (96, 0)))), some (.inr (.inr (some (7, 0)))), some (.inr (.inr (some (8, 0)))), some (.inl (nI i))], []) :: fs) (d + 701) (mk I X) Q := by
  have e1 : (nI i + 1).toNatClampNeg = i + 1 := ix_cl (nI_addE rfl (rfl : (1 : Int32) = nI 1)) (by omega)
  have e2 : (nI i + 2).toNatClampNeg = i + 2 := ix_cl (nI_addE rfl (rfl : (2 : Int32) = nI 2)) (by omega)
  have e3 : (nI i + 3).toNatClampNeg = i + 3 := ix_cl (nI_addE rfl (rfl : (3 : Int32) = nI 3)) (by omega)
  have e4 : (nI i + 4).toNatClampNeg = i + 4 := ix_cl (nI_addE rfl (rfl : (4 : Int32) = nI 4)) (by omega)
  have e5 : (nI i + 5).toNatClampNeg = i + 5 := ix_cl (nI_addE rfl (rfl : (5 : Int32) = nI 5)) (by omega)
  refine am_go 400 ?_
  refine am_f (ix_in (n := i + 1) (N := X.2.2.2.2.1) (nI_addE rfl (rfl : (1 : Int32) = nI 1)) (by omega) (by omega)) ?_
  refine am_f (ix_in (n := i + 2) (N := X.2.2.2.2.1) (nI_addE rfl (rfl : (2 : Int32) = nI 2)) (by omega) (by omega)) ?_
  refine am_f (ix_in (n := i + 3) (N := X.2.2.2.2.1) (nI_addE rfl (rfl : (3 : Int32) = nI 3)) (by omega) (by omega)) ?_
  refine am_f (ix_in (n := i + 4) (N := X.2.2.2.2.1) (nI_addE rfl (rfl : (4 : Int32) = nI 4)) (by omega) (by omega)) ?_
  refine am_f (ix_in (n := i + 5) (N := X.2.2.2.2.1) (nI_addE rfl (rfl : (5 : Int32) = nI 5)) (by omega) (by omega)) ?_
  refine (Sp_as (as' := [.inr (.inr (some (7, 0))), .inl (I 96 0 (i + 1)), .inl (I 96 0 (i + 2)), .inl (I 96 0 (i + 3)), .inl (I 96 0 (i + 4)), .inl (I 96 0 (i + 5))]) ?_ (p_X7_copy (d := d + 698) H.1 H.2.2.1 (I 96 0 (i + 1)) (I 96 0 (i + 2)) (I 96 0 (i + 3)) (I 96 0 (i + 4)) (I 96 0 (i + 5)))) _ _ _ ?_
  · show ([.inr (.inr (some (7, 0))), .inl (I 96 0 (nI i + 1).toNatClampNeg), .inl (I 96 0 (nI i + 2).toNatClampNeg), .inl (I 96 0 (nI i + 3).toNatClampNeg), .inl (I 96 0 (nI i + 4).toNatClampNeg), .inl (I 96 0 (nI i + 5).toNatClampNeg)] : List am_V) = [.inr (.inr (some (7, 0))), .inl (I 96 0 (i + 1)), .inl (I 96 0 (i + 2)), .inl (I 96 0 (i + 3)), .inl (I 96 0 (i + 4)), .inl (I 96 0 (i + 5))]
    rw [e1, e2, e3, e4, e5]
  · rintro v I1 X1 ⟨rfl, hR1, hF1⟩
    have f96 : I1 96 = I 96 := hF1.1 96 rfl
    have fL := hF1.2.1
    refine am_go 400 ?_
    refine am_f (ix_in (n := i + 1) (N := X1.2.2.2.2.1) (nI_addE rfl (rfl : (1 : Int32) = nI 1)) (by omega) (by omega)) ?_
    refine am_f (ix_in (n := i + 2) (N := X1.2.2.2.2.1) (nI_addE rfl (rfl : (2 : Int32) = nI 2)) (by omega) (by omega)) ?_
    refine am_f (ix_in (n := i + 3) (N := X1.2.2.2.2.1) (nI_addE rfl (rfl : (3 : Int32) = nI 3)) (by omega) (by omega)) ?_
    refine am_f (ix_in (n := i + 4) (N := X1.2.2.2.2.1) (nI_addE rfl (rfl : (4 : Int32) = nI 4)) (by omega) (by omega)) ?_
    refine am_f (ix_in (n := i + 5) (N := X1.2.2.2.2.1) (nI_addE rfl (rfl : (5 : Int32) = nI 5)) (by omega) (by omega)) ?_
    refine (Sp_as (as' := [.inr (.inr (some (8, 0))), .inl (I 96 0 (i + 1)), .inl (I 96 0 (i + 2)), .inl (I 96 0 (i + 3)), .inl (I 96 0 (i + 4)), .inl (I 96 0 (i + 5))]) ?_ (p_X8_copy (d := d + 698) (RM_F H.2.1 hF1) H.2.2.1 (I 96 0 (i + 1)) (I 96 0 (i + 2)) (I 96 0 (i + 3)) (I 96 0 (i + 4)) (I 96 0 (i + 5)))) _ _ _ ?_
    · show ([.inr (.inr (some (8, 0))), .inl (I1 96 0 (nI i + 1).toNatClampNeg), .inl (I1 96 0 (nI i + 2).toNatClampNeg), .inl (I1 96 0 (nI i + 3).toNatClampNeg), .inl (I1 96 0 (nI i + 4).toNatClampNeg), .inl (I1 96 0 (nI i + 5).toNatClampNeg)] : List am_V) = [.inr (.inr (some (8, 0))), .inl (I 96 0 (i + 1)), .inl (I 96 0 (i + 2)), .inl (I 96 0 (i + 3)), .inl (I 96 0 (i + 4)), .inl (I 96 0 (i + 5))]
      rw [f96, e1, e2, e3, e4, e5]
    · rintro v2 I2 X2 ⟨rfl, hM2, hF2, rfl⟩
      refine am_go 400 ?_
      refine am_t rfl ?_
      refine am_cf rfl ?_
      refine am_cut ?_
      exact K I2 _ _ ⟨RC_F hR1 hF2, hM2, g_copy H.2.2 (I 96 0 (i + 1)) (I 96 0 (i + 2)) (I 96 0 (i + 3)) (I 96 0 (i + 4)) (I 96 0 (i + 5))⟩ ⟨hF1.2.1, hF1.2.2.1, hF1.2.2.2⟩
set_option maxRecDepth 100000 in
set_option maxHeartbeats 4000000 in
theorem lw_lay {I : Im} {X : am_Z} {s : St} {i L d : Nat} {fs : List am_F} {Q : Option am_V → am_M → Prop} (H : LwH I X s) (hL : X.2.2.2.2.1 = L) (hi : i + 6 ≤ L) (hL2 : L ≤ 3072) (K : ∀ (I' : Im) (X' : am_Z) (s' : St), LwH I' X' s' → LwF X X' → am_WP ((mL_law, 1676, [some (.inr (.inr (some (96, 0)))), some (.inr (.inr (some (7, 0)))), some (.inr (.inr (some (8, 0)))), some (.inl (nI i))], []) :: fs) (d + 701) (mk I' X') Q) : am_WP ((mL_law, 1439, [some (.inr (.inr (some (96, 0)))), some (.inr (.inr (some (7, 0)))), some (.inr (.inr (some (8, 0)))), some (.inl (nI i))], []) :: fs) (d + 701) (mk I X) Q := by
  have e1 : (nI i + 1).toNatClampNeg = i + 1 := ix_cl (nI_addE rfl (rfl : (1 : Int32) = nI 1)) (by omega)
  have e2 : (nI i + 2).toNatClampNeg = i + 2 := ix_cl (nI_addE rfl (rfl : (2 : Int32) = nI 2)) (by omega)
  have e3 : (nI i + 3).toNatClampNeg = i + 3 := ix_cl (nI_addE rfl (rfl : (3 : Int32) = nI 3)) (by omega)
  refine am_go 400 ?_
  refine am_f (ix_in (n := i + 1) (N := X.2.2.2.2.1) (nI_addE rfl (rfl : (1 : Int32) = nI 1)) (by omega) (by omega)) ?_
  refine am_f (ix_in (n := i + 2) (N := X.2.2.2.2.1) (nI_addE rfl (rfl : (2 : Int32) = nI 2)) (by omega) (by omega)) ?_
  refine am_f (ix_in (n := i + 3) (N := X.2.2.2.2.1) (nI_addE rfl (rfl : (3 : Int32) = nI 3)) (by omega) (by omega)) ?_
  refine (Sp_as (as' := [.inr (.inr (some (7, 0))), .inl (I 96 0 (i + 1)), .inl (I 96 0 (i + 2)), .inl (I 96 0 (i + 3))]) ?_ (p_X7_lay (d := d + 698) H.1 H.2.2.1 (I 96 0 (i + 1)) (I 96 0 (i + 2)) (I 96 0 (i + 3)))) _ _ _ ?_
  · show ([.inr (.inr (some (7, 0))), .inl (I 96 0 (nI i + 1).toNatClampNeg), .inl (I 96 0 (nI i + 2).toNatClampNeg), .inl (I 96 0 (nI i + 3).toNatClampNeg)] : List am_V) = [.inr (.inr (some (7, 0))), .inl (I 96 0 (i + 1)), .inl (I 96 0 (i + 2)), .inl (I 96 0 (i + 3))]
    rw [e1, e2, e3]
  · rintro v I1 X1 ⟨rfl, hR1, hF1⟩
    have f96 : I1 96 = I 96 := hF1.1 96 rfl
    have fL := hF1.2.1
    refine am_go 400 ?_
    refine am_f (ix_in (n := i + 1) (N := X1.2.2.2.2.1) (nI_addE rfl (rfl : (1 : Int32) = nI 1)) (by omega) (by omega)) ?_
    refine am_f (ix_in (n := i + 2) (N := X1.2.2.2.2.1) (nI_addE rfl (rfl : (2 : Int32) = nI 2)) (by omega) (by omega)) ?_
    refine am_f (ix_in (n := i + 3) (N := X1.2.2.2.2.1) (nI_addE rfl (rfl : (3 : Int32) = nI 3)) (by omega) (by omega)) ?_
    refine (Sp_as (as' := [.inr (.inr (some (8, 0))), .inl (I 96 0 (i + 1)), .inl (I 96 0 (i + 2)), .inl (I 96 0 (i + 3))]) ?_ (p_X8_lay (d := d + 698) (RM_F H.2.1 hF1) H.2.2.1 (I 96 0 (i + 1)) (I 96 0 (i + 2)) (I 96 0 (i + 3)))) _ _ _ ?_
    · show ([.inr (.inr (some (8, 0))), .inl (I1 96 0 (nI i + 1).toNatClampNeg), .inl (I1 96 0 (nI i + 2).toNatClampNeg), .inl (I1 96 0 (nI i + 3).toNatClampNeg)] : List am_V) = [.inr (.inr (some (8, 0))), .inl (I 96 0 (i + 1)), .inl (I 96 0 (i + 2)), .inl (I 96 0 (i + 3))]
      rw [f96, e1, e2, e3]
    · rintro v2 I2 X2 ⟨rfl, hM2, hF2, rfl⟩
      refine am_go 400 ?_
      refine am_t rfl ?_
      refine am_cf rfl ?_
      refine am_cut ?_
      exact K I2 _ _ ⟨RC_F hR1 hF2, hM2, g_lay H.2.2 (I 96 0 (i + 1)) (I 96 0 (i + 2)) (I 96 0 (i + 3))⟩ ⟨hF1.2.1, hF1.2.2.1, hF1.2.2.2⟩
set_option maxRecDepth 100000 in
set_option maxHeartbeats 4000000 in
theorem lw_ask {I : Im} {X : am_Z} {s : St} {i L d : Nat} {fs : List am_F} {Q : Option am_V → am_M → Prop} (H : LwH I X s) (hL : X.2.2.2.2.1 = L) (hi : i + 6 ≤ L) (hL2 : L ≤ 3072) (K : ∀ (I' : Im) (X' : am_Z) (s' : St), LwH I' X' s' → LwF X X' → am_WP ((mL_law, 1676, [some (.inr (.inr (some (96, 0)))), some (.inr (.inr (some (7, 0)))), some (.inr (.inr (some (8, 0)))), some (.inl (nI i))], []) :: fs) (d + 701) (mk I' X') Q) : am_WP ((mL_law, 1482, [some (.inr (.inr (some (96, 0)))), some (.inr (.inr (some (7, 0)))), some (.inr (.inr (some (8, 0)))), some (.inl (nI i))], []) :: fs) (d + 701) (mk I X) Q := by
  have e1 : (nI i + 1).toNatClampNeg = i + 1 := ix_cl (nI_addE rfl (rfl : (1 : Int32) = nI 1)) (by omega)
  have e2 : (nI i + 2).toNatClampNeg = i + 2 := ix_cl (nI_addE rfl (rfl : (2 : Int32) = nI 2)) (by omega)
  refine am_go 400 ?_
  refine am_f (ix_in (n := i + 1) (N := X.2.2.2.2.1) (nI_addE rfl (rfl : (1 : Int32) = nI 1)) (by omega) (by omega)) ?_
  refine am_f (ix_in (n := i + 2) (N := X.2.2.2.2.1) (nI_addE rfl (rfl : (2 : Int32) = nI 2)) (by omega) (by omega)) ?_
  refine (Sp_as (as' := [.inr (.inr (some (7, 0))), .inl (I 96 0 (i + 1)), .inl (I 96 0 (i + 2))]) ?_ (p_X7_ask (d := d + 697) H.1 H.2.2.1 (I 96 0 (i + 1)) (I 96 0 (i + 2)))) _ _ _ ?_
  · show ([.inr (.inr (some (7, 0))), .inl (I 96 0 (nI i + 1).toNatClampNeg), .inl (I 96 0 (nI i + 2).toNatClampNeg)] : List am_V) = [.inr (.inr (some (7, 0))), .inl (I 96 0 (i + 1)), .inl (I 96 0 (i + 2))]
    rw [e1, e2]
  · rintro v I1 X1 ⟨rfl, hR1, hF1⟩
    have f96 : I1 96 = I 96 := hF1.1 96 rfl
    have fL := hF1.2.1
    refine am_go 400 ?_
    refine am_f (ix_in (n := i + 1) (N := X1.2.2.2.2.1) (nI_addE rfl (rfl : (1 : Int32) = nI 1)) (by omega) (by omega)) ?_
    refine am_f (ix_in (n := i + 2) (N := X1.2.2.2.2.1) (nI_addE rfl (rfl : (2 : Int32) = nI 2)) (by omega) (by omega)) ?_
    refine (Sp_as (as' := [.inr (.inr (some (8, 0))), .inl (I 96 0 (i + 1)), .inl (I 96 0 (i + 2))]) ?_ (p_X8_ask (d := d + 698) (RM_F H.2.1 hF1) H.2.2.1 (I 96 0 (i + 1)) (I 96 0 (i + 2)))) _ _ _ ?_
    · show ([.inr (.inr (some (8, 0))), .inl (I1 96 0 (nI i + 1).toNatClampNeg), .inl (I1 96 0 (nI i + 2).toNatClampNeg)] : List am_V) = [.inr (.inr (some (8, 0))), .inl (I 96 0 (i + 1)), .inl (I 96 0 (i + 2))]
      rw [f96, e1, e2]
    · rintro v2 I2 X2 ⟨rfl, hM2, hF2, rfl⟩
      refine am_go 400 ?_
      refine am_t rfl ?_
      refine am_cf rfl ?_
      refine am_cut ?_
      exact K I2 _ _ ⟨RC_F hR1 hF2, hM2, g_ask H.2.2 (I 96 0 (i + 1)) (I 96 0 (i + 2))⟩ ⟨hF1.2.1, hF1.2.2.1, hF1.2.2.2⟩
set_option maxRecDepth 100000 in
set_option maxHeartbeats 4000000 in
theorem lw_item {I : Im} {X : am_Z} {s : St} {i L d : Nat} {fs : List am_F} {Q : Option am_V → am_M → Prop} (H : LwH I X s) (hL : X.2.2.2.2.1 = L) (hi : i + 6 ≤ L) (hL2 : L ≤ 3072) (K : ∀ (I' : Im) (X' : am_Z) (s' : St), LwH I' X' s' → LwF X X' → am_WP ((mL_law, 1676, [some (.inr (.inr (some (96, 0)))), some (.inr (.inr (some (7, 0)))), some (.inr (.inr (some (8, 0)))), some (.inl (nI i))], []) :: fs) (d + 701) (mk I' X') Q) : am_WP ((mL_law, 1515, [some (.inr (.inr (some (96, 0)))), some (.inr (.inr (some (7, 0)))), some (.inr (.inr (some (8, 0)))), some (.inl (nI i))], []) :: fs) (d + 701) (mk I X) Q := by
  have e1 : (nI i + 1).toNatClampNeg = i + 1 := ix_cl (nI_addE rfl (rfl : (1 : Int32) = nI 1)) (by omega)
  have e2 : (nI i + 2).toNatClampNeg = i + 2 := ix_cl (nI_addE rfl (rfl : (2 : Int32) = nI 2)) (by omega)
  refine am_go 400 ?_
  refine am_f (ix_in (n := i + 1) (N := X.2.2.2.2.1) (nI_addE rfl (rfl : (1 : Int32) = nI 1)) (by omega) (by omega)) ?_
  refine am_f (ix_in (n := i + 2) (N := X.2.2.2.2.1) (nI_addE rfl (rfl : (2 : Int32) = nI 2)) (by omega) (by omega)) ?_
  refine (Sp_as (as' := [.inr (.inr (some (7, 0))), .inl (I 96 0 (i + 1)), .inl (I 96 0 (i + 2))]) ?_ (p_X7_item (d := d + 697) H.1 H.2.2.1 (I 96 0 (i + 1)) (I 96 0 (i + 2)))) _ _ _ ?_
  · show ([.inr (.inr (some (7, 0))), .inl (I 96 0 (nI i + 1).toNatClampNeg), .inl (I 96 0 (nI i + 2).toNatClampNeg)] : List am_V) = [.inr (.inr (some (7, 0))), .inl (I 96 0 (i + 1)), .inl (I 96 0 (i + 2))]
    rw [e1, e2]
  · rintro v I1 X1 ⟨rfl, hR1, hF1⟩
    have f96 : I1 96 = I 96 := hF1.1 96 rfl
    have fL := hF1.2.1
    refine am_go 400 ?_
    refine am_f (ix_in (n := i + 1) (N := X1.2.2.2.2.1) (nI_addE rfl (rfl : (1 : Int32) = nI 1)) (by omega) (by omega)) ?_
    refine am_f (ix_in (n := i + 2) (N := X1.2.2.2.2.1) (nI_addE rfl (rfl : (2 : Int32) = nI 2)) (by omega) (by omega)) ?_
    refine (Sp_as (as' := [.inr (.inr (some (8, 0))), .inl (I 96 0 (i + 1)), .inl (I 96 0 (i + 2))]) ?_ (p_X8_item (d := d + 698) (RM_F H.2.1 hF1) H.2.2.1 (I 96 0 (i + 1)) (I 96 0 (i + 2)))) _ _ _ ?_
    · show ([.inr (.inr (some (8, 0))), .inl (I1 96 0 (nI i + 1).toNatClampNeg), .inl (I1 96 0 (nI i + 2).toNatClampNeg)] : List am_V) = [.inr (.inr (some (8, 0))), .inl (I 96 0 (i + 1)), .inl (I 96 0 (i + 2))]
      rw [f96, e1, e2]
    · rintro v2 I2 X2 ⟨rfl, hM2, hF2, rfl⟩
      refine am_go 400 ?_
      refine am_t rfl ?_
      refine am_cf rfl ?_
      refine am_cut ?_
      exact K I2 _ _ ⟨RC_F hR1 hF2, hM2, g_item H.2.2 (I 96 0 (i + 1)) (I 96 0 (i + 2))⟩ ⟨hF1.2.1, hF1.2.2.1, hF1.2.2.2⟩
set_option maxRecDepth 100000 in
set_option maxHeartbeats 4000000 in
theorem lw_rest {I : Im} {X : am_Z} {s : St} {i L d : Nat} {fs : List am_F} {Q : Option am_V → am_M → Prop} (H : LwH I X s) (hL : X.2.2.2.2.1 = L) (hi : i + 6 ≤ L) (hL2 : L ≤ 3072) (K : ∀ (I' : Im) (X' : am_Z) (s' : St), LwH I' X' s' → LwF X X' → am_WP ((mL_law, 1676, [some (.inr (.inr (some (96, 0)))), some (.inr (.inr (some (7, 0)))), some (.inr (.inr (some (8, 0)))), some (.inl (nI i))], []) :: fs) (d + 701) (mk I' X') Q) : am_WP ((mL_law, 1548, [some (.inr (.inr (some (96, 0)))), some (.inr (.inr (some (7, 0)))), some (.inr (.inr (some (8, 0)))), some (.inl (nI i))], []) :: fs) (d + 701) (mk I X) Q := by
  have e1 : (nI i + 1).toNatClampNeg = i + 1 := ix_cl (nI_addE rfl (rfl : (1 : Int32) = nI 1)) (by omega)
  have e2 : (nI i + 2).toNatClampNeg = i + 2 := ix_cl (nI_addE rfl (rfl : (2 : Int32) = nI 2)) (by omega)
  refine am_go 400 ?_
  refine am_f (ix_in (n := i + 1) (N := X.2.2.2.2.1) (nI_addE rfl (rfl : (1 : Int32) = nI 1)) (by omega) (by omega)) ?_
  refine am_f (ix_in (n := i + 2) (N := X.2.2.2.2.1) (nI_addE rfl (rfl : (2 : Int32) = nI 2)) (by omega) (by omega)) ?_
  refine (Sp_as (as' := [.inr (.inr (some (7, 0))), .inl (I 96 0 (i + 1)), .inl (I 96 0 (i + 2))]) ?_ (p_X7_rest (d := d + 698) H.1 H.2.2.1 (I 96 0 (i + 1)) (I 96 0 (i + 2)))) _ _ _ ?_
  · show ([.inr (.inr (some (7, 0))), .inl (I 96 0 (nI i + 1).toNatClampNeg), .inl (I 96 0 (nI i + 2).toNatClampNeg)] : List am_V) = [.inr (.inr (some (7, 0))), .inl (I 96 0 (i + 1)), .inl (I 96 0 (i + 2))]
    rw [e1, e2]
  · rintro v I1 X1 ⟨rfl, hR1, hF1⟩
    have f96 : I1 96 = I 96 := hF1.1 96 rfl
    have fL := hF1.2.1
    refine am_go 400 ?_
    refine am_f (ix_in (n := i + 1) (N := X1.2.2.2.2.1) (nI_addE rfl (rfl : (1 : Int32) = nI 1)) (by omega) (by omega)) ?_
    refine am_f (ix_in (n := i + 2) (N := X1.2.2.2.2.1) (nI_addE rfl (rfl : (2 : Int32) = nI 2)) (by omega) (by omega)) ?_
    refine (Sp_as (as' := [.inr (.inr (some (8, 0))), .inl (I 96 0 (i + 1)), .inl (I 96 0 (i + 2))]) ?_ (p_X8_rest (d := d + 698) (RM_F H.2.1 hF1) H.2.2.1 (I 96 0 (i + 1)) (I 96 0 (i + 2)))) _ _ _ ?_
    · show ([.inr (.inr (some (8, 0))), .inl (I1 96 0 (nI i + 1).toNatClampNeg), .inl (I1 96 0 (nI i + 2).toNatClampNeg)] : List am_V) = [.inr (.inr (some (8, 0))), .inl (I 96 0 (i + 1)), .inl (I 96 0 (i + 2))]
      rw [f96, e1, e2]
    · rintro v2 I2 X2 ⟨rfl, hM2, hF2, rfl⟩
      refine am_go 400 ?_
      refine am_t rfl ?_
      refine am_cf rfl ?_
      refine am_cut ?_
      exact K I2 _ _ ⟨RC_F hR1 hF2, hM2, g_rest H.2.2 (I 96 0 (i + 1)) (I 96 0 (i + 2))⟩ ⟨hF1.2.1, hF1.2.2.1, hF1.2.2.2⟩
set_option maxRecDepth 100000 in
set_option maxHeartbeats 4000000 in
theorem lw_tell {I : Im} {X : am_Z} {s : St} {i L d : Nat} {fs : List am_F} {Q : Option am_V → am_M → Prop} (H : LwH I X s) (hL : X.2.2.2.2.1 = L) (hi : i + 6 ≤ L) (hL2 : L ≤ 3072) (K : ∀ (I' : Im) (X' : am_Z) (s' : St), LwH I' X' s' → LwF X X' → am_WP ((mL_law, 1676, [some (.inr (.inr (some (96, 0)))), some (.inr (.inr (some (7, 0)))), some (.inr (.inr (some (8, 0)))), some (.inl (nI i))], []) :: fs) (d + 701) (mk I' X') Q) : am_WP ((mL_law, 1581, [some (.inr (.inr (some (96, 0)))), some (.inr (.inr (some (7, 0)))), some (.inr (.inr (some (8, 0)))), some (.inl (nI i))], []) :: fs) (d + 701) (mk I X) Q := by
  have e1 : (nI i + 1).toNatClampNeg = i + 1 := ix_cl (nI_addE rfl (rfl : (1 : Int32) = nI 1)) (by omega)
  refine am_go 400 ?_
  refine am_f (ix_in (n := i + 1) (N := X.2.2.2.2.1) (nI_addE rfl (rfl : (1 : Int32) = nI 1)) (by omega) (by omega)) ?_
  refine (Sp_as (as' := [.inr (.inr (some (7, 0))), .inl (I 96 0 (i + 1))]) ?_ (p_X7_tell (d := d + 700) H.1 H.2.2.1 (I 96 0 (i + 1)))) _ _ _ ?_
  · show ([.inr (.inr (some (7, 0))), .inl (I 96 0 (nI i + 1).toNatClampNeg)] : List am_V) = [.inr (.inr (some (7, 0))), .inl (I 96 0 (i + 1))]
    rw [e1]
  · rintro v I1 X1 ⟨rfl, hR1, hF1⟩
    have f96 : I1 96 = I 96 := hF1.1 96 rfl
    have fL := hF1.2.1
    refine am_go 400 ?_
    refine am_f (ix_in (n := i + 1) (N := X1.2.2.2.2.1) (nI_addE rfl (rfl : (1 : Int32) = nI 1)) (by omega) (by omega)) ?_
    refine (Sp_as (as' := [.inr (.inr (some (8, 0))), .inl (I 96 0 (i + 1))]) ?_ (p_X8_tell (d := d + 700) (RM_F H.2.1 hF1) H.2.2.1 (I 96 0 (i + 1)))) _ _ _ ?_
    · show ([.inr (.inr (some (8, 0))), .inl (I1 96 0 (nI i + 1).toNatClampNeg)] : List am_V) = [.inr (.inr (some (8, 0))), .inl (I 96 0 (i + 1))]
      rw [f96, e1]
    · rintro v2 I2 X2 ⟨rfl, hM2, hF2, rfl⟩
      refine am_go 400 ?_
      refine am_t rfl ?_
      refine am_cf rfl ?_
      refine am_cut ?_
      exact K I2 _ _ ⟨RC_F hR1 hF2, hM2, g_tell H.2.2 (I 96 0 (i + 1))⟩ ⟨hF1.2.1, hF1.2.2.1, hF1.2.2.2⟩
set_option maxRecDepth 100000 in
set_option maxHeartbeats 4000000 in
theorem lw_check {I : Im} {X : am_Z} {s : St} {i L d : Nat} {fs : List am_F} {Q : Option am_V → am_M → Prop} (H : LwH I X s) (hL : X.2.2.2.2.1 = L) (hi : i + 6 ≤ L) (hL2 : L ≤ 3072) (K : ∀ (I' : Im) (X' : am_Z) (s' : St), LwH I' X' s' → LwF X X' → am_WP ((mL_law, 1676, [some (.inr (.inr (some (96, 0)))), some (.inr (.inr (some (7, 0)))), some (.inr (.inr (some (8, 0)))), some (.inl (nI i))], []) :: fs) (d + 701) (mk I' X') Q) : am_WP ((mL_law, 1604, [some (.inr (.inr (some (96, 0)))), some (.inr (.inr (some (7, 0)))), some (.inr (.inr (some (8, 0)))), some (.inl (nI i))], []) :: fs) (d + 701) (mk I X) Q := by
  have e1 : (nI i + 1).toNatClampNeg = i + 1 := ix_cl (nI_addE rfl (rfl : (1 : Int32) = nI 1)) (by omega)
  refine am_go 400 ?_
  refine am_f (ix_in (n := i + 1) (N := X.2.2.2.2.1) (nI_addE rfl (rfl : (1 : Int32) = nI 1)) (by omega) (by omega)) ?_
  refine (Sp_as (as' := [.inr (.inr (some (7, 0))), .inl (I 96 0 (i + 1))]) ?_ (p_X7_check (d := d + 698) H.1 H.2.2.1 (I 96 0 (i + 1)))) _ _ _ ?_
  · show ([.inr (.inr (some (7, 0))), .inl (I 96 0 (nI i + 1).toNatClampNeg)] : List am_V) = [.inr (.inr (some (7, 0))), .inl (I 96 0 (i + 1))]
    rw [e1]
  · rintro v I1 X1 ⟨rfl, hR1, hF1⟩
    have f96 : I1 96 = I 96 := hF1.1 96 rfl
    have fL := hF1.2.1
    refine am_go 400 ?_
    refine am_f (ix_in (n := i + 1) (N := X1.2.2.2.2.1) (nI_addE rfl (rfl : (1 : Int32) = nI 1)) (by omega) (by omega)) ?_
    refine (Sp_as (as' := [.inr (.inr (some (8, 0))), .inl (I 96 0 (i + 1))]) ?_ (p_X8_check (d := d + 696) (RM_F H.2.1 hF1) H.2.2.1 (I 96 0 (i + 1)))) _ _ _ ?_
    · show ([.inr (.inr (some (8, 0))), .inl (I1 96 0 (nI i + 1).toNatClampNeg)] : List am_V) = [.inr (.inr (some (8, 0))), .inl (I 96 0 (i + 1))]
      rw [f96, e1]
    · rintro v2 I2 X2 ⟨rfl, hM2, hF2, rfl⟩
      refine am_go 400 ?_
      refine am_t rfl ?_
      refine am_cf rfl ?_
      refine am_cut ?_
      exact K I2 _ _ ⟨RC_F hR1 hF2, hM2, g_check H.2.2 (I 96 0 (i + 1))⟩ ⟨hF1.2.1, hF1.2.2.1, hF1.2.2.2⟩
set_option maxRecDepth 100000 in
set_option maxHeartbeats 4000000 in
theorem lw_keep {I : Im} {X : am_Z} {s : St} {i L d : Nat} {fs : List am_F} {Q : Option am_V → am_M → Prop} (H : LwH I X s) (hL : X.2.2.2.2.1 = L) (hi : i + 6 ≤ L) (hL2 : L ≤ 3072) (K : ∀ (I' : Im) (X' : am_Z) (s' : St), LwH I' X' s' → LwF X X' → am_WP ((mL_law, 1676, [some (.inr (.inr (some (96, 0)))), some (.inr (.inr (some (7, 0)))), some (.inr (.inr (some (8, 0)))), some (.inl (nI i))], []) :: fs) (d + 701) (mk I' X') Q) : am_WP ((mL_law, 1627, [some (.inr (.inr (some (96, 0)))), some (.inr (.inr (some (7, 0)))), some (.inr (.inr (some (8, 0)))), some (.inl (nI i))], []) :: fs) (d + 701) (mk I X) Q := by
  refine am_go 400 ?_
  refine (Sp_as (as' := [.inr (.inr (some (7, 0)))]) ?_ (p_X7_keep (d := d + 698) H.1 H.2.2.1 )) _ _ _ ?_
  · rfl
  · rintro v I1 X1 ⟨rfl, hR1, hF1⟩
    have f96 : I1 96 = I 96 := hF1.1 96 rfl
    have fL := hF1.2.1
    refine am_go 400 ?_
    refine (Sp_as (as' := [.inr (.inr (some (8, 0)))]) ?_ (p_X8_keep (d := d + 699) (RM_F H.2.1 hF1) H.2.2.1 )) _ _ _ ?_
    · rfl
    · rintro v2 I2 X2 ⟨rfl, hM2, hF2, rfl⟩
      refine am_go 400 ?_
      refine am_t rfl ?_
      refine am_cf rfl ?_
      refine am_cut ?_
      exact K I2 _ _ ⟨RC_F hR1 hF2, hM2, g_keep H.2.2 ⟩ ⟨hF1.2.1, hF1.2.2.1, hF1.2.2.2⟩
set_option maxRecDepth 100000 in
set_option maxHeartbeats 4000000 in
theorem lw_back {I : Im} {X : am_Z} {s : St} {i L d : Nat} {fs : List am_F} {Q : Option am_V → am_M → Prop} (H : LwH I X s) (hL : X.2.2.2.2.1 = L) (hi : i + 6 ≤ L) (hL2 : L ≤ 3072) (K : ∀ (I' : Im) (X' : am_Z) (s' : St), LwH I' X' s' → LwF X X' → am_WP ((mL_law, 1676, [some (.inr (.inr (some (96, 0)))), some (.inr (.inr (some (7, 0)))), some (.inr (.inr (some (8, 0)))), some (.inl (nI i))], []) :: fs) (d + 701) (mk I' X') Q) : am_WP ((mL_law, 1640, [some (.inr (.inr (some (96, 0)))), some (.inr (.inr (some (7, 0)))), some (.inr (.inr (some (8, 0)))), some (.inl (nI i))], []) :: fs) (d + 701) (mk I X) Q := by
  refine am_go 400 ?_
  refine (Sp_as (as' := [.inr (.inr (some (7, 0)))]) ?_ (p_X7_back (d := d + 698) H.1 H.2.2.1 )) _ _ _ ?_
  · rfl
  · rintro v I1 X1 ⟨rfl, hR1, hF1⟩
    have f96 : I1 96 = I 96 := hF1.1 96 rfl
    have fL := hF1.2.1
    refine am_go 400 ?_
    refine (Sp_as (as' := [.inr (.inr (some (8, 0)))]) ?_ (p_X8_back (d := d + 699) (RM_F H.2.1 hF1) H.2.2.1 )) _ _ _ ?_
    · rfl
    · rintro v2 I2 X2 ⟨rfl, hM2, hF2, rfl⟩
      refine am_go 400 ?_
      refine am_t rfl ?_
      refine am_cf rfl ?_
      refine am_cut ?_
      exact K I2 _ _ ⟨RC_F hR1 hF2, hM2, g_back H.2.2 ⟩ ⟨hF1.2.1, hF1.2.2.1, hF1.2.2.2⟩
set_option maxRecDepth 100000 in
set_option maxHeartbeats 4000000 in
theorem lw_count {I : Im} {X : am_Z} {s : St} {i L d : Nat} {fs : List am_F} {Q : Option am_V → am_M → Prop} (H : LwH I X s) (hL : X.2.2.2.2.1 = L) (hi : i + 6 ≤ L) (hL2 : L ≤ 3072) (K : ∀ (I' : Im) (X' : am_Z) (s' : St), LwH I' X' s' → LwF X X' → am_WP ((mL_law, 1676, [some (.inr (.inr (some (96, 0)))), some (.inr (.inr (some (7, 0)))), some (.inr (.inr (some (8, 0)))), some (.inl (nI i))], []) :: fs) (d + 701) (mk I' X') Q) : am_WP ((mL_law, 1653, [some (.inr (.inr (some (96, 0)))), some (.inr (.inr (some (7, 0)))), some (.inr (.inr (some (8, 0)))), some (.inl (nI i))], []) :: fs) (d + 701) (mk I X) Q := by
  have e1 : (nI i + 1).toNatClampNeg = i + 1 := ix_cl (nI_addE rfl (rfl : (1 : Int32) = nI 1)) (by omega)
  refine am_go 400 ?_
  refine am_f (ix_in (n := i + 1) (N := X.2.2.2.2.1) (nI_addE rfl (rfl : (1 : Int32) = nI 1)) (by omega) (by omega)) ?_
  refine (Sp_as (as' := [.inr (.inr (some (7, 0))), .inl (I 96 0 (i + 1))]) ?_ (p_X7_count (d := d + 700) H.1 H.2.2.1 (I 96 0 (i + 1)))) _ _ _ ?_
  · show ([.inr (.inr (some (7, 0))), .inl (I 96 0 (nI i + 1).toNatClampNeg)] : List am_V) = [.inr (.inr (some (7, 0))), .inl (I 96 0 (i + 1))]
    rw [e1]
  · rintro v I1 X1 ⟨rfl, hR1, hF1⟩
    have f96 : I1 96 = I 96 := hF1.1 96 rfl
    have fL := hF1.2.1
    refine am_go 400 ?_
    refine am_f (ix_in (n := i + 1) (N := X1.2.2.2.2.1) (nI_addE rfl (rfl : (1 : Int32) = nI 1)) (by omega) (by omega)) ?_
    refine (Sp_as (as' := [.inr (.inr (some (8, 0))), .inl (I 96 0 (i + 1))]) ?_ (p_X8_count (d := d + 700) (RM_F H.2.1 hF1) H.2.2.1 (I 96 0 (i + 1)))) _ _ _ ?_
    · show ([.inr (.inr (some (8, 0))), .inl (I1 96 0 (nI i + 1).toNatClampNeg)] : List am_V) = [.inr (.inr (some (8, 0))), .inl (I 96 0 (i + 1))]
      rw [f96, e1]
    · rintro v2 I2 X2 ⟨rfl, hM2, hF2, rfl⟩
      refine am_go 400 ?_
      refine am_t rfl ?_
      refine am_cf rfl ?_
      refine am_cut ?_
      exact K I2 _ _ ⟨RC_F hR1 hF2, hM2, g_count H.2.2 (I 96 0 (i + 1))⟩ ⟨hF1.2.1, hF1.2.2.1, hF1.2.2.2⟩
