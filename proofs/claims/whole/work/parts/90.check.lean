/-! check -/
/-- the rows due: of m years -/
noncomputable def dueL : Nat → Cn → List Int32
  | 0, _ => []
  | m + 1, σ => if 9999 ≤ σ.2.1 0 then [] else nI (stA (yearN σ)) :: nI (hdA (yearN σ)) :: dueL m (yearN σ)
def cmpW (W : Nat → Int32) (gv : Nat) : List Int32 → Nat → Nat
  | [], r => if r = gv then 0 else 1 + r
  | v :: l, r => if r < gv ∧ W r = v then cmpW W gv l (r + 1) else 1 + r
def wt0 (s : St) : St := (s.1, s.2.1, s.2.2.1, s.2.2.2.1, (0, s.2.2.2.2.1.2), s.2.2.2.2.2)
noncomputable def f_check (s : St) (x : Int32) : Int32 × St := if 1 ≤ x ∧ x ≤ 30 then (match s.2.1 with
  | none => (cNO, wt0 s)
  | some e => (nI (cmpW s.2.2.2.2.1.2 s.2.2.2.2.1.1 (dueL (kx x) e.1) 0), wt0 s)) else (cBAD, wt0 s)
theorem RC_wt0 {I X s} (h : RC I X s) : RC (up3 I 7 0 9 0) X (wt0 s) := by
  obtain ⟨h1, hi, hr, hs, hw, htp, hk', hid⟩ := h
  refine ⟨h1, ?_, hr, hs, ⟨rfl, fun j hj => absurd hj (Nat.not_lt_zero _)⟩, htp, hk', hid⟩
  show ImC _ X s.2.1
  rcases e : s.2.1 with _ | ei
  · rw [e] at hi; exact hi
  · rw [e] at hi; exact hi
theorem RM_wt0 {I s} (h : RM I s) : RM (up3 I 8 0 33 0) (wt0 s) := by
  obtain ⟨h1, hi, hr, hs, hw, htp⟩ := h
  refine ⟨h1, ?_, hr, hs, ⟨rfl, fun j hj => absurd hj (Nat.not_lt_zero _)⟩, htp⟩
  show ImM _ s.2.1
  rcases e : s.2.1 with _ | ei
  · rw [e] at hi; exact hi
  · rw [e] at hi; exact hi
theorem GS_wt0 {s} (G : GS s) : GS (wt0 s) := by
  obtain ⟨a, b, c, d, e, f⟩ := G
  exact ⟨a, b, c, d, Nat.zero_le _, f⟩
set_option maxRecDepth 100000 in
set_option maxHeartbeats 4000000 in
theorem w_chkC_49 {I : Nat → Nat → Nat → Int32} {X : am_Z} {g : am_F} {gs : List am_F} {d : Nat} {Q : Option am_V → am_M → Prop} {n gv r i : Nat} {x : Int32} (hx : x = nI n) (hn : n ≤ 30) (hi : i ≤ n) (hg : gv ≤ 60) (hr : r ≤ 60) {σ : Cn} (hR : RepC I 2 σ) (hG : GD σ) (hy : σ.2.1 0 ≤ 9999) {W : Nat → Int32} (hW : ∀ j, j < gv → I 26 0 j = W j) (k0 : (n ≤ i) → (r = gv) → am_WP (am_psh g (some (.inl (0))) :: gs) (d + 3) (mk I X) Q) (k1 : (n ≤ i) → (¬ (r = gv)) → am_WP (am_psh g (some (.inl ((nI (1 + r))))) :: gs) (d + 3) (mk I X) Q) (k2 : (¬ (n ≤ i)) → (9999 ≤ (σ.2.1 0)) → (r = gv) → am_WP (am_psh g (some (.inl (0))) :: gs) (d + 3) (mk I X) Q) (k3 : (¬ (n ≤ i)) → (9999 ≤ (σ.2.1 0)) → (¬ (r = gv)) → am_WP (am_psh g (some (.inl ((nI (1 + r))))) :: gs) (d + 3) (mk I X) Q) (k4 : (¬ (n ≤ i)) → (¬ (9999 ≤ (σ.2.1 0))) → ∀ (I1 : Im), (RepC I1 2 (yearN σ) ∧ FrB 2 I I1) → (gv ≤ r) → am_WP (am_psh g (some (.inl ((nI (1 + r))))) :: gs) (d + 3) (mk I1 X) Q) (k5 : (¬ (n ≤ i)) → (¬ (9999 ≤ (σ.2.1 0))) → ∀ (I1 : Im), (RepC I1 2 (yearN σ) ∧ FrB 2 I I1) → (¬ (gv ≤ r)) → (((W (r))) = nI (stA (yearN σ))) → (gv ≤ (r + 1)) → am_WP (am_psh g (some (.inl ((nI (1 + (r + 1)))))) :: gs) (d + 3) (mk I1 X) Q) (k6 : (¬ (n ≤ i)) → (¬ (9999 ≤ (σ.2.1 0))) → ∀ (I1 : Im), (RepC I1 2 (yearN σ) ∧ FrB 2 I I1) → (¬ (gv ≤ r)) → (((W (r))) = nI (stA (yearN σ))) → (¬ (gv ≤ (r + 1))) → (((W (r + 1))) = nI (hdA (yearN σ))) → am_WP ((mX7_check, 49, [some (.inr (.inr (some (7, 0)))), some (.inl (x)), some (.inl (nI gv)), some (.inl ((nI ((r + 1) + 1)))), some (.inl ((nI (i + 1))))], []) :: g :: gs) (d + 2) (mk I1 X) Q) (k7 : (¬ (n ≤ i)) → (¬ (9999 ≤ (σ.2.1 0))) → ∀ (I1 : Im), (RepC I1 2 (yearN σ) ∧ FrB 2 I I1) → (¬ (gv ≤ r)) → (((W (r))) = nI (stA (yearN σ))) → (¬ (gv ≤ (r + 1))) → (¬ ((W (r + 1))) = nI (hdA (yearN σ))) → am_WP (am_psh g (some (.inl ((nI (1 + (r + 1)))))) :: gs) (d + 3) (mk I1 X) Q) (k8 : (¬ (n ≤ i)) → (¬ (9999 ≤ (σ.2.1 0))) → ∀ (I1 : Im), (RepC I1 2 (yearN σ) ∧ FrB 2 I I1) → (¬ (gv ≤ r)) → (¬ ((W (r))) = nI (stA (yearN σ))) → am_WP (am_psh g (some (.inl ((nI (1 + r))))) :: gs) (d + 3) (mk I1 X) Q) : am_WP ((mX7_check, 49, [some (.inr (.inr (some (7, 0)))), some (.inl (x)), some (.inl (nI gv)), some (.inl (nI r)), some (.inl (nI i))], []) :: g :: gs) (d + 2) (mk I X) Q := by
  have h8 := hG.1
  refine am_go 400 ?_
  refine am_if (fun h1 => ?_) (fun h1 => ?_)
  · have nh1 := (le_nat (a := n) (b := i) hx (rfl : (nI i : Int32) = nI i) (by omega) (by omega)).mp h1
    refine am_if (fun h2 => ?_) (fun h2 => ?_)
    · have nh2 := (eq_nat (a := r) (b := gv) (rfl : (nI r : Int32) = nI r) (rfl : (nI gv : Int32) = nI gv) (by omega) (by omega)).mp h2
      exact k0 nh1 nh2
    · have nh2 := mt (eq_nat (a := r) (b := gv) (rfl : (nI r : Int32) = nI r) (rfl : (nI gv : Int32) = nI gv) (by omega) (by omega)).mpr h2
      have tk0 : (1 + nI r) = nI (1 + r) := (nI_addE (rfl : (1 : Int32) = nI 1) rfl)
      show am_WP (am_psh g (some (.inl (((1 + nI r))))) :: gs) (d + 3) (mk I X) Q
      try rw [tk0]
      exact k1 nh1 nh2
  · have nh1 := mt (le_nat (a := n) (b := i) hx (rfl : (nI i : Int32) = nI i) (by omega) (by omega)).mpr h1
    have tk1 : I 1 2 7 = nI (σ.2.1 0) := hR.2.1
    refine am_if (fun h3 => ?_) (fun h3 => ?_)
    · have nh3 := (le_nat (a := 9999) (b := (σ.2.1 0)) (rfl : (9999 : Int32) = nI 9999) tk1 (by omega) (by omega)).mp h3
      refine am_if (fun h4 => ?_) (fun h4 => ?_)
      · have nh4 := (eq_nat (a := r) (b := gv) (rfl : (nI r : Int32) = nI r) (rfl : (nI gv : Int32) = nI gv) (by omega) (by omega)).mp h4
        exact k2 nh1 nh3 nh4
      · have nh4 := mt (eq_nat (a := r) (b := gv) (rfl : (nI r : Int32) = nI r) (rfl : (nI gv : Int32) = nI gv) (by omega) (by omega)).mpr h4
        have tk2 : (1 + nI r) = nI (1 + r) := (nI_addE (rfl : (1 : Int32) = nI 1) rfl)
        show am_WP (am_psh g (some (.inl (((1 + nI r))))) :: gs) (d + 3) (mk I X) Q
        try rw [tk2]
        exact k3 nh1 nh3 nh4
    · have nh3 := mt (le_nat (a := 9999) (b := (σ.2.1 0)) (rfl : (9999 : Int32) = nI 9999) tk1 (by omega) (by omega)).mpr h3
      refine (c_X1_passYear (c := 2) hR hG (by omega)) _ _ _ ?_
      intro I1 p1
      refine am_go 400 ?_
      refine am_if (fun h5 => ?_) (fun h5 => ?_)
      · have nh5 := (le_nat (a := gv) (b := r) (rfl : (nI gv : Int32) = nI gv) (rfl : (nI r : Int32) = nI r) (by omega) (by omega)).mp h5
        have tk3 : (1 + nI r) = nI (1 + r) := (nI_addE (rfl : (1 : Int32) = nI 1) rfl)
        show am_WP (am_psh g (some (.inl (((1 + nI r))))) :: gs) (d + 3) (mk I1 X) Q
        try rw [tk3]
        exact k4 nh1 nh3 I1 p1 nh5
      · have nh5 := mt (le_nat (a := gv) (b := r) (rfl : (nI gv : Int32) = nI gv) (rfl : (nI r : Int32) = nI r) (by omega) (by omega)).mpr h5
        refine am_f (ix_in (n := r) (N := 60) (rfl : (nI r : Int32) = nI r) (by omega) (by decide)) ?_
        have tk4 : (nI r).toNatClampNeg = r := ix_cl (n := r) (rfl : (nI r : Int32) = nI r) (by omega)
        have tk5 : I1 26 0 (((nI r).toNatClampNeg)) = (W (r)) := by first | exact (show I1 26 0 (r) = _ from by rw [FrB_g p1.2 (by decide)]; exact hW _ (by omega)) | (((try rw [tk4])); first | done | exact (show I1 26 0 (r) = _ from by rw [FrB_g p1.2 (by decide)]; exact hW _ (by omega)))
        refine (c_X1_strengthOfAll (c := 2) p1.1 (GD_year hG) (by omega)) _ _ _ ?_
        refine am_go 400 ?_
        refine am_if (fun h6 => ?_) (fun h6 => ?_)
        · have h6 : (I1 26 0 (((nI r).toNatClampNeg))) = nI (stA (yearN σ)) := h6
          try rw [tk5] at h6
          try rw [tk4] at h6
          refine am_if (fun h7 => ?_) (fun h7 => ?_)
          · have nh7 := (le_nat (a := gv) (b := (r + 1)) (rfl : (nI gv : Int32) = nI gv) (nI_addE rfl (rfl : (1 : Int32) = nI 1)) (by omega) (by omega)).mp h7
            have tk6 : (1 + (nI r + 1)) = nI (1 + (r + 1)) := (nI_addE (rfl : (1 : Int32) = nI 1) (nI_addE rfl (rfl : (1 : Int32) = nI 1)))
            show am_WP (am_psh g (some (.inl (((1 + (nI r + 1)))))) :: gs) (d + 3) (mk I1 X) Q
            try rw [tk6]
            exact k5 nh1 nh3 I1 p1 nh5 h6 nh7
          · have nh7 := mt (le_nat (a := gv) (b := (r + 1)) (rfl : (nI gv : Int32) = nI gv) (nI_addE rfl (rfl : (1 : Int32) = nI 1)) (by omega) (by omega)).mpr h7
            refine am_f (ix_in (n := (r + 1)) (N := 60) (nI_addE rfl (rfl : (1 : Int32) = nI 1)) (by omega) (by decide)) ?_
            have tk7 : ((nI r + 1)).toNatClampNeg = (r + 1) := ix_cl (n := (r + 1)) (nI_addE rfl (rfl : (1 : Int32) = nI 1)) (by omega)
            have tk8 : I1 26 0 ((((nI r + 1)).toNatClampNeg)) = (W (r + 1)) := by first | exact (show I1 26 0 (r + 1) = _ from by rw [FrB_g p1.2 (by decide)]; exact hW _ (by omega)) | (((try rw [tk7])); first | done | exact (show I1 26 0 (r + 1) = _ from by rw [FrB_g p1.2 (by decide)]; exact hW _ (by omega)))
            refine (c_X1_holdOfAll (c := 2) p1.1 (GD_year hG) (by omega)) _ _ _ ?_
            refine am_go 400 ?_
            refine am_if (fun h8 => ?_) (fun h8 => ?_)
            · have h8 : (I1 26 0 ((((nI r + 1)).toNatClampNeg))) = nI (hdA (yearN σ)) := h8
              try rw [tk8] at h8
              try rw [tk7] at h8
              have tk9 : ((nI r + 1) + 1) = nI ((r + 1) + 1) := (nI_addE (nI_addE rfl (rfl : (1 : Int32) = nI 1)) (rfl : (1 : Int32) = nI 1))
              have tk10 : (nI i + 1) = nI (i + 1) := (nI_addE rfl (rfl : (1 : Int32) = nI 1))
              show am_WP ((mX7_check, 49, [some (.inr (.inr (some (7, 0)))), some (.inl (x)), some (.inl (nI gv)), some (.inl ((((nI r + 1) + 1)))), some (.inl (((nI i + 1))))], []) :: g :: gs) (d + 2) (mk I1 X) Q
              try rw [tk9]
              try rw [tk10]
              exact k6 nh1 nh3 I1 p1 nh5 h6 nh7 h8
            · have h8 : ¬ (I1 26 0 ((((nI r + 1)).toNatClampNeg))) = nI (hdA (yearN σ)) := h8
              try rw [tk8] at h8
              try rw [tk7] at h8
              have tk11 : (1 + (nI r + 1)) = nI (1 + (r + 1)) := (nI_addE (rfl : (1 : Int32) = nI 1) (nI_addE rfl (rfl : (1 : Int32) = nI 1)))
              show am_WP (am_psh g (some (.inl (((1 + (nI r + 1)))))) :: gs) (d + 3) (mk I1 X) Q
              try rw [tk11]
              exact k7 nh1 nh3 I1 p1 nh5 h6 nh7 h8
        · have h6 : ¬ (I1 26 0 (((nI r).toNatClampNeg))) = nI (stA (yearN σ)) := h6
          try rw [tk5] at h6
          try rw [tk4] at h6
          have tk12 : (1 + nI r) = nI (1 + r) := (nI_addE (rfl : (1 : Int32) = nI 1) rfl)
          show am_WP (am_psh g (some (.inl (((1 + nI r))))) :: gs) (d + 3) (mk I1 X) Q
          try rw [tk12]
          exact k8 nh1 nh3 I1 p1 nh5 h6
set_option maxRecDepth 100000 in
set_option maxHeartbeats 4000000 in
theorem w_chkC_e {I : Nat → Nat → Nat → Int32} {X : am_Z} {g : am_F} {gs : List am_F} {d : Nat} {Q : Option am_V → am_M → Prop} {gv : Nat} {x : Int32} (hw : I 7 0 9 = nI gv) (k0 : am_WP ((mX7_check, 10, [some (.inr (.inr (some (7, 0)))), some (.inl (x)), some (.inl ((nI gv))), none, none], []) :: g :: gs) (d + 2) (mk (up3 I 7 0 (9) (0)) X) Q) : am_WP (am_entry mX7_check [.inr (.inr (some (7, 0))), .inl (x)] :: g :: gs) (d + 2) (mk I X) Q := by
  refine am_go 6 ?_
  have tk0 : I 7 0 9 = nI gv := hw
  show am_WP ((mX7_check, 10, [some (.inr (.inr (some (7, 0)))), some (.inl (x)), some (.inl ((I 7 0 9))), none, none], []) :: g :: gs) (d + 2) (mk (up3 I 7 0 (9) (0)) X) Q
  try rw [tk0]
  exact k0
set_option maxRecDepth 100000 in
set_option maxHeartbeats 4000000 in
theorem w_chkC_b0 {I : Nat → Nat → Nat → Int32} {X : am_Z} {g : am_F} {gs : List am_F} {d : Nat} {Q : Option am_V → am_M → Prop} {gv : Nat} {x : Int32} (h7 : I 7 0 8 = 0)  (k0 : (¬ ((1 : Int32) ≤ x ∧ x ≤ 30)) → am_WP (am_psh g (some (.inl ((-1000000001)))) :: gs) (d + 3) (mk I X) Q) (k1 : ((1 : Int32) ≤ x ∧ x ≤ 30) → am_WP (am_psh g (some (.inl ((-1000000002)))) :: gs) (d + 3) (mk I X) Q) : am_WP ((mX7_check, 10, [some (.inr (.inr (some (7, 0)))), some (.inl (x)), some (.inl (nI gv)), none, none], []) :: g :: gs) (d + 2) (mk I X) Q := by
  refine am_go 400 ?_
  refine (c_X7_within (x) (1) (30)) _ _ _ ?_
  refine am_go 400 ?_
  refine am_if (fun h1 => ?_) (fun h1 => ?_)
  · have h1 := bI_0.mp h1
    exact k0 h1
  · have h1 := bI_1.mp h1
    have tk0 : I 7 0 8 = 0 := h7
    refine am_t (by show (I 7 0 8) = 0; (try rw [tk0]); first | done | exact rfl) ?_
    exact k1 h1
set_option maxRecDepth 100000 in
set_option maxHeartbeats 4000000 in
theorem w_chkC_b1 {I : Nat → Nat → Nat → Int32} {X : am_Z} {g : am_F} {gs : List am_F} {d : Nat} {Q : Option am_V → am_M → Prop} {gv : Nat} {x : Int32} (h7 : I 7 0 8 = 1) {ei : Ce} (hE : CeC I X 1 ei) (h8 : ei.1.1 ≤ 8) (h14 : ei.2.1 ≤ 14) (k0 : (¬ ((1 : Int32) ≤ x ∧ x ≤ 30)) → am_WP (am_psh g (some (.inl ((-1000000001)))) :: gs) (d + 3) (mk I X) Q) (k1 : ((1 : Int32) ≤ x ∧ x ≤ 30) → ∀ (I1 : Im) (X1 : am_Z), (CeC I1 X1 2 ei ∧ BaF 2 I X I1 X1) → am_WP ((mX7_check, 49, [some (.inr (.inr (some (7, 0)))), some (.inl (x)), some (.inl (nI gv)), some (.inl (0)), some (.inl (0))], []) :: g :: gs) (d + 2) (mk I1 X1) Q) : am_WP ((mX7_check, 10, [some (.inr (.inr (some (7, 0)))), some (.inl (x)), some (.inl (nI gv)), none, none], []) :: g :: gs) (d + 2) (mk I X) Q := by
  refine am_go 400 ?_
  refine (c_X7_within (x) (1) (30)) _ _ _ ?_
  refine am_go 400 ?_
  refine am_if (fun h1 => ?_) (fun h1 => ?_)
  · have h1 := bI_0.mp h1
    exact k0 h1
  · have h1 := bI_1.mp h1
    have tk0 : I 7 0 8 = 1 := h7
    refine am_f (by show ¬ (I 7 0 8) = 0; (try rw [tk0]); first | done | exact (by decide)) ?_
    refine (c_X1_becomeAs (I := I) (X := X) (c := 2) (o := 1) (e := ei) hE (by decide) (by decide) (by decide) h8 h14) _ _ _ ?_
    intro I1 X1 p1
    refine am_go 4 ?_
    exact k1 h1 I1 X1 p1
theorem y9 {σ : Cn} (h : σ.2.1 0 ≤ 9999) (hn : ¬ 9999 ≤ σ.2.1 0) : (yearN σ).2.1 0 ≤ 9999 := by
  rw [yearN_n.2, fu_s]; omega
theorem l_chkC {I0 : Im} {X0 X : am_Z} {g gs d Q} {s : St} (G : GS s) {n gv : Nat} {x : Int32} (hx : x = nI n) (hn : n ≤ 30) (hg : gv ≤ 60) {tt : Nat × (Nat → Tx)} {W : Nat → Int32} : ∀ (m i r : Nat) (σ : Cn) (I : Im), i + m = n → r = 2 * i → RC I X s → CeC I X 2 (σ, tt) → GD σ → σ.2.1 0 ≤ 9999 → FrC I0 X0 I X → (∀ j, j < gv → I 26 0 j = W j) →
    (∀ I', RC I' X s ∧ FrC I0 X0 I' X → am_WP (am_psh g (some (.inl (nI (cmpW W gv (dueL m σ) r)))) :: gs) (d + 3) (mk I' X) Q) →
    am_WP ((mX7_check, 49, [some (.inr (.inr (some (7, 0)))), some (.inl x), some (.inl (nI gv)), some (.inl (nI r)), some (.inl (nI i))], []) :: g :: gs) (d + 2) (mk I X) Q
  | 0, i, r, σ, I, hi, hr, h, hE, hD, hy, F, hW, K => by
    have K0 := K I ⟨h, F⟩
    have e1 : r = gv → nI (cmpW W gv (dueL 0 σ) r) = 0 := fun e => by rw [dueL, cmpW, if_pos e]; rfl
    have e2 : ¬ r = gv → nI (cmpW W gv (dueL 0 σ) r) = nI (1 + r) := fun e => by rw [dueL, cmpW, if_neg e]
    exact w_chkC_49 hx hn (by omega) hg (by omega) hE.1 hD hy hW (fun _ e => K_v (e1 e) K0) (fun _ e => K_v (e2 e) K0) (fun z => absurd (by omega) z) (fun z => absurd (by omega) z) (fun z => absurd (by omega) z) (fun z => absurd (by omega) z) (fun z => absurd (by omega) z) (fun z => absurd (by omega) z) (fun z => absurd (by omega) z)
  | m + 1, i, r, σ, I, hi, hr, h, hE, hD, hy, F, hW, K => by
    by_cases hh : 9999 ≤ σ.2.1 0
    · have K0 := K I ⟨h, F⟩
      have e1 : r = gv → nI (cmpW W gv (dueL (m + 1) σ) r) = 0 := fun e => by rw [dueL, if_pos hh, cmpW, if_pos e]; rfl
      have e2 : ¬ r = gv → nI (cmpW W gv (dueL (m + 1) σ) r) = nI (1 + r) := fun e => by rw [dueL, if_pos hh, cmpW, if_neg e]
      exact w_chkC_49 hx hn (by omega) hg (by omega) hE.1 hD hy hW (fun z => absurd z (by omega)) (fun z => absurd z (by omega)) (fun _ _ e => K_v (e1 e) K0) (fun _ _ e => K_v (e2 e) K0) (fun _ z => absurd hh z) (fun _ z => absurd hh z) (fun _ z => absurd hh z) (fun _ z => absurd hh z) (fun _ z => absurd hh z)
    · rw [dueL, if_neg hh] at K
      have st : ∀ I1, RepC I1 2 (yearN σ) ∧ FrB 2 I I1 → RC I1 X s ∧ FrC I0 X0 I1 X := fun I1 p1 => ⟨RC_F2 h (G8_ G) p1.2, FrC_tr F (FrC_B p1.2)⟩
      refine w_chkC_49 hx hn (by omega) hg (by omega) hE.1 hD hy hW (fun z => absurd z (by omega)) (fun z => absurd z (by omega)) (fun _ z => absurd z hh) (fun _ z => absurd z hh) (fun _ _ I1 p1 q1 => ?_) (fun _ _ I1 p1 q1 q2 q3 => ?_) (fun _ _ I1 p1 q1 q2 q3 q4 => ?_) (fun _ _ I1 p1 q1 q2 q3 q4 => ?_) (fun _ _ I1 p1 q1 q2 => ?_)
      · exact K_v (by rw [cmpW, if_neg (by omega)]) (K I1 (st I1 p1))
      · exact K_v (by rw [cmpW, if_pos ⟨by omega, q2⟩, cmpW, if_neg (by omega)]) (K I1 (st I1 p1))
      · refine l_chkC G hx hn hg (tt := tt) (W := W) m (i + 1) (r + 1 + 1) (yearN σ) I1 (by omega) (by omega) (st I1 p1).1 ⟨p1.1, TsC_F hE.2 p1.2⟩ (GD_year hD) (y9 hy hh) (st I1 p1).2 (fun j hj => by rw [FrB_g p1.2 (by decide)]; exact hW j hj) ?_
        rw [cmpW, if_pos ⟨by omega, q2⟩, cmpW, if_pos ⟨by omega, q4⟩] at K
        exact K
      · exact K_v (by rw [cmpW, if_pos ⟨by omega, q2⟩, cmpW, if_neg (fun z => q4 z.2)]) (K I1 (st I1 p1))
      · exact K_v (by rw [cmpW, if_neg (fun z => q2 z.2)]) (K I1 (st I1 p1))
theorem p_X7_check {I X d s} (h : RC I X s) (G : GS s) (x : Int32) : Sp mX7_check [.inr (.inr (some (7, 0))), .inl x] (d + 2) I X (OC I X (f_check s x)) := fun g gs Q K => by
  refine w_chkC_e h.2.2.2.2.1.1 ?_
  have h2 : RC (up3 I 7 0 9 0) X (wt0 s) := RC_wt0 h
  have F2 : FrC I X (up3 I 7 0 9 0) X := FrC_3 rfl FrC_r
  have G2 : GS (wt0 s) := GS_wt0 G
  have hi := h2.2.1
  rcases he : s.2.1 with _ | ei
  · rw [show (wt0 s).2.1 = none from he] at hi
    refine w_chkC_b0 hi (fun h0 => ?_) (fun h0 => ?_)
    · apply K_s K; unfold f_check; rw [if_neg h0]; exact ⟨rfl, h2, F2⟩
    · apply K_s K; unfold f_check; rw [if_pos h0, he]; exact ⟨rfl, h2, F2⟩
  · rw [show (wt0 s).2.1 = some ei from he] at hi
    have ge := G.2.1 ei he
    refine w_chkC_b1 hi.1 hi.2 ge.1.1 ge.2.2.1 (fun h0 => ?_) (fun h0 I1 X1 p1 => ?_)
    · apply K_s K; unfold f_check; rw [if_neg h0]; exact ⟨rfl, h2, F2⟩
    · obtain ⟨e_x, _, l_x⟩ := okr (lo := 1) (m := 30) (by decide) (by decide) h0
      refine l_chkC (I0 := I) (X0 := X) (s := wt0 s) (tt := ei.2) (W := s.2.2.2.2.1.2) G2 e_x l_x G.2.2.2.2.1 (kx x) 0 0 ei.1 I1 (Nat.zero_add _) rfl (RC_th h2 (G8_ G2) p1.2) p1.1 (GC_D ge.1) ge.2.1 ?_ (fun j hj => ?_) (fun I' p' => ?_)
      · exact ⟨fun g' hg' => ((FrC_Ba p1.2).1 g' hg').trans (F2.1 g' hg'), (FrC_Ba p1.2).2⟩
      · rw [BaF_g p1.2 (by decide)]; exact h.2.2.2.2.1.2 j hj
      · apply K_s K; unfold f_check; rw [if_pos h0, he]; exact ⟨rfl, p'.1, p'.2⟩
