/-! rests, draws; calls that leave some memory -/
theorem nzE {y : Int32} {b : Nat} (hy : y = nI b) (h0 : 0 < b) (hb : b < 2 ^ 31) : ¬ y = 0 := by rw [hy]; exact nI_ne0 h0 hb
theorem divE {x y : Int32} {a b : Nat} (hx : x = nI a) (hy : y = nI b) (ha : a < 2 ^ 31) (h0 : 0 < b) (hb : b < 2 ^ 31) : x / y = nI (a / b) := by rw [hx, hy, pk_div ha h0 hb]
theorem remE {x y : Int32} {a b : Nat} (hx : x = nI a) (hy : y = nI b) (ha : a < 2 ^ 31) (h0 : 0 < b) (hb : b < 2 ^ 31) : x - x / y * y = nI (a % b) := by rw [hx, hy, pk_rem ha h0 hb]
def dn (z : Int32) : Nat := ((dz z).toUInt32 >>> ((8 : Int32).toUInt32 &&& Int32.toUInt32 31)).toNat
theorem dv_n (z : Int32) : dv z = nI (dn z) := by
  have e : UInt32.ofNat (dn z) = ((dz z).toUInt32 >>> ((8 : Int32).toUInt32 &&& Int32.toUInt32 31)) := UInt32.ofNat_toNat
  show ((dz z).toUInt32 >>> ((8 : Int32).toUInt32 &&& Int32.toUInt32 31)).toInt32 = nI (dn z)
  rw [← e]
  rfl
theorem dn_lt (z : Int32) : dn z < 16777216 := by
  unfold dn
  rw [UInt32.toNat_shiftRight, show ((8 : Int32).toUInt32 &&& Int32.toUInt32 31).toNat % 32 = 8 by decide, Nat.shiftRight_eq_div_pow]
  have := UInt32.toNat_lt (dz z).toUInt32
  omega
/-- the same, so that nobody looks into them -/
theorem dZx : ∃ f : Int32 → Int32, ∀ z, f z = dz z := ⟨dz, fun _ => rfl⟩
noncomputable def dZ : Int32 → Int32 := Classical.choose dZx
theorem dZ_e (z : Int32) : dZ z = dz z := Classical.choose_spec dZx z
theorem dNx : ∃ f : Int32 → Nat, ∀ z, dv z = nI (f z) ∧ f z < 16777216 := ⟨dn, fun z => ⟨dv_n z, dn_lt z⟩⟩
noncomputable def dN : Int32 → Nat := Classical.choose dNx
theorem dN_e (z : Int32) : dv z = nI (dN z) := (Classical.choose_spec dNx z).1
theorem dN_lt (z : Int32) : dN z < 16777216 := (Classical.choose_spec dNx z).2
/-- a call answers w, and leaves a memory with P -/
def Sw (mid : Nat) (as : List am_V) (d : Nat) (I : Im) (X : am_Z) (w : Option am_V) (P : Im → Prop) : Prop := ∀ (g : am_F) (gs : List am_F) (Q : Option am_V → am_M → Prop), (∀ I', P I' → am_WP (am_psh g w :: gs) (d + 1) (mk I' X) Q) → am_WP (am_entry mid as :: g :: gs) d (mk I X) Q
theorem Sw_m {mid as d I X w} {P P' : Im → Prop} (h : Sw mid as d I X w P) (hp : ∀ I', P I' → P' I') : Sw mid as d I X w P' := fun g gs Q K => h g gs Q (fun I' p => K I' (hp I' p))
/-- nothing but the bottle q (class) changes; but the cellar c -/
def FrQ (q : Nat) (I I' : Im) : Prop := ∀ g k, ¬ ((g = 0 ∨ g = 16 ∨ g = 17) ∧ k = q) → I' g k = I g k
def FrB (c : Nat) (I I' : Im) : Prop := (∀ g k, ¬ (g = 1 ∧ k = c) → ¬ ((g = 0 ∨ g = 16 ∨ g = 17) ∧ 8 * c ≤ k ∧ k < 8 * c + 8) → I' g k = I g k) ∧ I' 1 c 4 = I 1 c 4
theorem FrQ_r {q I} : FrQ q I I := fun _ _ _ => rfl
theorem FrQ_3 {q I I' g j v} (h : FrQ q I I') (hg : g = 0 ∨ g = 16 ∨ g = 17) : FrQ q I (up3 I' g q j v) := fun g' k' n => by
  rw [up3_k (by
    by_cases e : g' = g
    · right; intro z; exact n ⟨by rw [e]; exact hg, z⟩
    · exact Or.inl e)]
  exact h g' k' n
theorem FrQ_t {q I I' I''} (h : FrQ q I I') (h2 : FrQ q I' I'') : FrQ q I I'' := fun g k n => (h2 g k n).trans (h g k n)
theorem FrB_r {c I} : FrB c I I := ⟨fun _ _ _ _ => rfl, rfl⟩
theorem FrB_t {c I I' I''} (h : FrB c I I') (h2 : FrB c I' I'') : FrB c I I'' := ⟨fun g k n m => (h2.1 g k n m).trans (h.1 g k n m), h2.2.trans h.2⟩
theorem FrB_q {c q I I' I''} (h : FrB c I I') (h2 : FrQ q I' I'') (hq : 8 * c ≤ q ∧ q < 8 * c + 8) : FrB c I I'' := ⟨fun g k n m => (h2 g k (fun z => m ⟨z.1, by omega, by omega⟩)).trans (h.1 g k n m), by rw [h2 1 c (fun z => by omega)]; exact h.2⟩
theorem FrB_1 {c I I' j v} (h : FrB c I I') (hj : j ≠ 4) : FrB c I (up3 I' 1 c j v) := ⟨fun g k n m => by
    rw [up3_k (by
      by_cases e : g = 1
      · right; intro z; exact n ⟨e, z⟩
      · exact Or.inl e)]
    exact h.1 g k n m, by rw [up3_j (fun e => hj e.symm)]; exact h.2⟩
theorem FrB_3 {c I I' g q j v} (h : FrB c I I') (hg : g = 0 ∨ g = 16 ∨ g = 17) (hq : 8 * c ≤ q ∧ q < 8 * c + 8) : FrB c I (up3 I' g q j v) := FrB_q h (FrQ_3 FrQ_r hg) hq
theorem RepC_B {I I' : Im} {c k : Nat} {σ : Cn} {β : Bn} (h : RepC I c σ) (hn : σ.1 ≤ 8) (hk : k < 8) (F : FrQ (k + 8 * c) I I') (hr : RB (cB I' (k + 8 * c)) β) : RepC I' c (setB σ k β) :=
  RepC_w h hn hk (F 1 c (fun z => by omega)) (fun k' hk' e => ⟨F _ _ (fun z => by omega), F _ _ (fun z => by omega), F _ _ (fun z => by omega)⟩) hr
theorem RepC_F {I I' : Im} {c c' : Nat} {σ : Cn} (h : RepC I c σ) (hn : σ.1 ≤ 8) (hc : c ≠ c') (F : FrB c' I I') : RepC I' c σ :=
  RepC_cg h hn (F.1 1 c (fun z => hc z.2) (fun z => by omega)) (fun k hk => ⟨F.1 _ _ (fun z => by omega) (fun z => by omega), F.1 _ _ (fun z => by omega) (fun z => by omega), F.1 _ _ (fun z => by omega) (fun z => by omega)⟩)
theorem FrB_g {c I I' g} (F : FrB c I I') (hg : ¬ (g = 0 ∨ g = 1 ∨ g = 16 ∨ g = 17)) : I' g = I g := funext fun k => F.1 g k (fun z => hg (by omega)) (fun z => hg (by omega))
theorem TsC_F {I I' X c c' nt tx} (h : TsC I X c nt tx) (F : FrB c' I I') : TsC I' X c nt tx := by
  have e6 := FrB_g (g := 6) F (by decide)
  have e27 := FrB_g (g := 27) F (by decide)
  have e18 := FrB_g (g := 18) F (by decide)
  obtain ⟨a, b, e⟩ := h
  refine ⟨?_, fun key hk => by rw [e18]; exact b key hk, fun t ht => ?_⟩
  · by_cases q : c = c'
    · subst q; exact F.2.trans a
    · rw [F.1 1 c (fun z => q z.2) (fun z => by omega)]; exact a
  · obtain ⟨id, h1, h2, h3, h4, h5, h6, h7⟩ := e t ht
    exact ⟨id, h1, h2, by rw [e6]; exact h3, by rw [e6]; exact h4, h5, h6, fun k hk => by rw [e27]; exact h7 k hk⟩
/-- the cellar c becomes another one; what else the class holds stays -/
theorem RC_cel {I I' X s σ} (h : RC I X s) (G : G8 s) (F : FrB 0 I I') (hR : RepC I' 0 σ) : RC I' X ((σ, s.1.2), s.2) := by
  have ee : ∀ g, ¬ (g = 0 ∨ g = 1 ∨ g = 16 ∨ g = 17) → I' g = I g := fun g hg => FrB_g F hg
  obtain ⟨⟨h1, ht⟩, hi, hr, hs, hw, htp, hk', hid⟩ := h
  refine ⟨⟨hR, TsC_F ht F⟩, ?_, fun k hk => ?_, fun k hk => ?_, ?_, ?_, ?_, hid⟩
  · show ImC I' X s.2.1
    rcases e : s.2.1 with _ | ei
    · rw [e] at hi; show I' 7 0 8 = 0; rw [ee 7 (by decide)]; exact hi
    · rw [e] at hi; exact ⟨by rw [ee 7 (by decide)]; exact hi.1, RepC_F hi.2.1 (G.2 ei e) (by decide) F, TsC_F hi.2.2 F⟩
  · obtain ⟨a, b, c⟩ := hr k hk
    exact ⟨by rw [ee 4 (by decide)]; exact a, by rw [ee 4 (by decide)]; exact b, by rw [ee 25 (by decide)]; exact c⟩
  · obtain ⟨a, b, c, d⟩ := hs k hk
    exact ⟨by rw [ee 5 (by decide)]; exact a, by rw [ee 5 (by decide)]; exact b, by rw [ee 4 (by decide), ee 25 (by decide)]; exact c, by rw [ee 5 (by decide)]; exact d⟩
  · exact ⟨by rw [ee 7 (by decide)]; exact hw.1, by rw [ee 26 (by decide)]; exact hw.2⟩
  · exact ⟨by rw [ee 3 (by decide)]; exact htp.1, by rw [ee 23 (by decide)]; exact htp.2⟩
  · exact ⟨by rw [ee 20 (by decide)]; exact hk'.1, by rw [ee 21 (by decide)]; exact hk'.2.1, by rw [ee 22 (by decide)]; exact hk'.2.2⟩
theorem FrC_B {I I' X c} (F : FrB c I I') : FrC I X I' X := ⟨fun g hg => FrB_g F (fun z => by rcases z with rfl | rfl | rfl | rfl <;> cases hg), rfl, by omega, by omega⟩
set_option maxRecDepth 100000 in
set_option maxHeartbeats 4000000 in
theorem w_X1_draw {I : Nat → Nat → Nat → Int32} {X : am_Z} {g : am_F} {gs : List am_F} {d : Nat} {Q : Option am_V → am_M → Prop} {c : Nat} (k0 : am_WP (am_psh g (some (.inl (((((((I 1 c 8) * 1103515245) + 12345)) : Int32).toUInt32 >>> ((8 : Int32).toUInt32 &&& Int32.toUInt32 31)).toInt32))) :: gs) (d + 1) (mk (up3 I 1 c (8) ((((I 1 c 8) * 1103515245) + 12345))) X) Q) : am_WP (am_entry mX1_draw [.inr (.inr (some (1, c)))] :: g :: gs) (d) (mk I X) Q := by
  refine am_go 400 ?_
  have tk0 : (up3 I 1 c (8) ((((I 1 c 8) * 1103515245) + 12345))) 1 c 8 = (((I 1 c 8) * 1103515245) + 12345) := up3_s
  show am_WP (am_psh g (some (.inl (((((up3 I 1 c (8) ((((I 1 c 8) * 1103515245) + 12345))) 1 c 8) : Int32).toUInt32 >>> ((8 : Int32).toUInt32 &&& Int32.toUInt32 31)).toInt32))) :: gs) (d + 1) (mk (up3 I 1 c (8) ((((I 1 c 8) * 1103515245) + 12345))) X) Q
  try rw [tk0]
  exact k0
theorem c_X1_draw {I X d} {c : Nat} : Rt mX1_draw [.inr (.inr (some (1, c)))] d (mk I X) (some (.inl (nI (dN (I 1 c 8))))) (mk (up3 I 1 c 8 (dZ (I 1 c 8))) X) := fun g gs Q K => w_X1_draw (by
  rw [← dN_e, dZ_e] at K
  exact K)
theorem c_X8_draw {I X d} : Rt mX8_drawn [.inr (.inr (some (8, 0)))] d (mk I X) (some (.inl (nI (dN (I 30 0 5))))) (mk (up3 I 30 0 5 (dZ (I 30 0 5))) X) := fun g gs Q K => c8_drawn g gs Q (by
  rw [← dN_e, dZ_e] at K
  exact K)
/-- a year makes a bottle older -/
def ageN (damp : Prop) [Decidable damp] (w : Nat) (β : Bn) : Bn := if damp then (if β.1 2 = 1 then b2 (b0 β 1 (min (β.1 1 + 1) 99)) 5 (β.2.2 5 - w) else b0 β 1 (min (β.1 1 + 1) 99)) else if β.1 2 = 0 then b1 (b0 β 1 (min (β.1 1 + 1) 99)) 0 (β.2.1 0 - w) else b0 β 1 (min (β.1 1 + 1) 99)
set_option maxRecDepth 100000 in
set_option maxHeartbeats 4000000 in
theorem w_X0_age {I : Nat → Nat → Nat → Int32} {X : am_Z} {g : am_F} {gs : List am_F} {d : Nat} {Q : Option am_V → am_M → Prop} {b w : Nat} {β : Bn} {dp : Prop} [Decidable dp] (hB : RB (cB I b) β) (hg : GB β) (hw : w ≤ 5) (k0 : (¬ (dp)) → ((β.1 2) = 0) → am_WP (am_psh g none :: gs) (d + 1) (mk (up3 (up3 I 0 b (3) ((nI (min ((β.1 1) + 1) 99)))) 16 b (0) ((nI ((β.2.1 0) - w)))) X) Q) (k1 : (¬ (dp)) → (¬ ((β.1 2) = 0)) → am_WP (am_psh g none :: gs) (d + 1) (mk (up3 I 0 b (3) ((nI (min ((β.1 1) + 1) 99)))) X) Q) (k2 : dp → ((β.1 2) = 1) → am_WP (am_psh g none :: gs) (d + 1) (mk (up3 (up3 I 0 b (3) ((nI (min ((β.1 1) + 1) 99)))) 17 b (5) ((nI ((β.2.2 5) - w)))) X) Q) (k3 : dp → (¬ ((β.1 2) = 1)) → am_WP (am_psh g none :: gs) (d + 1) (mk (up3 I 0 b (3) ((nI (min ((β.1 1) + 1) 99)))) X) Q) : am_WP (am_entry mX0_age [.inr (.inr (some (0, b))), .inl (bI (dp)), .inl (nI w)] :: g :: gs) (d) (mk I X) Q := by
  refine am_go 400 ?_
  have bd : (β.1 1) ≤ 99 := hg.2.1
  have tk0 : I 0 b 3 = nI (β.1 1) := (hB 1 (by omega)).1
  have tk1 : (if 99 < ((I 0 b 3) + 1) then 99 else ((I 0 b 3) + 1)) = nI (min ((β.1 1) + 1) 99) := by first | exact minE (nI_addE tk0 (rfl : (1 : Int32) = nI 1)) (rfl : (99 : Int32) = nI 99) (by omega) (by omega) | (((try rw [tk0])); first | done | exact minE (nI_addE tk0 (rfl : (1 : Int32) = nI 1)) (rfl : (99 : Int32) = nI 99) (by omega) (by omega))
  refine am_if (fun h1 => ?_) (fun h1 => ?_)
  · have h1 := bI_0.mp h1
    refine am_t (bI_0.mpr h1) ?_
    have bd : (β.1 2) ≤ 1 := hg.2.2.1
    have tk2 : (up3 I 0 b (3) (((if 99 < ((I 0 b 3) + 1) then 99 else ((I 0 b 3) + 1))))) 0 b 4 = nI (β.1 2) := by first | exact ((up3_j (by decide))).trans ((hB 2 (by omega)).1) | (((try rw [tk1]); (try rw [tk0])); first | done | exact ((up3_j (by decide))).trans ((hB 2 (by omega)).1))
    refine am_if (fun h2 => ?_) (fun h2 => ?_)
    · have nh2 := (eq_nat (a := (β.1 2)) (b := 0) tk2 (rfl : (0 : Int32) = nI 0) (by omega) (by omega)).mp h2
      have bd : (β.2.1 0) ≤ 24 := (hg.2.2.2.2.2 _ (by omega)).1
      have tk3 : (up3 I 0 b (3) (((if 99 < ((I 0 b 3) + 1) then 99 else ((I 0 b 3) + 1))))) 16 b 0 = nI (β.2.1 0) := by first | exact (hB _ (by omega)).2.1 | (((try rw [tk1]); (try rw [tk0])); first | done | exact (hB _ (by omega)).2.1)
      have tk4 : (if (((up3 I 0 b (3) (((if 99 < ((I 0 b 3) + 1) then 99 else ((I 0 b 3) + 1))))) 16 b 0) - nI w) < 0 then 0 else (((up3 I 0 b (3) (((if 99 < ((I 0 b 3) + 1) then 99 else ((I 0 b 3) + 1))))) 16 b 0) - nI w)) = nI ((β.2.1 0) - w) := by first | exact mxE tk3 (rfl : (nI w : Int32) = nI w) (by omega) (by omega) | (((try rw [tk3]); (try rw [tk1]); (try rw [tk0])); first | done | exact mxE tk3 (rfl : (nI w : Int32) = nI w) (by omega) (by omega))
      show am_WP (am_psh g none :: gs) (d + 1) (mk (up3 (up3 I 0 b (3) (((if 99 < ((I 0 b 3) + 1) then 99 else ((I 0 b 3) + 1))))) 16 b (0) (((if (((up3 I 0 b (3) (((if 99 < ((I 0 b 3) + 1) then 99 else ((I 0 b 3) + 1))))) 16 b 0) - nI w) < 0 then 0 else (((up3 I 0 b (3) (((if 99 < ((I 0 b 3) + 1) then 99 else ((I 0 b 3) + 1))))) 16 b 0) - nI w))))) X) Q
      try rw [tk4]
      try rw [tk3]
      try rw [tk1]
      try rw [tk0]
      exact k0 h1 nh2
    · have nh2 := mt (eq_nat (a := (β.1 2)) (b := 0) tk2 (rfl : (0 : Int32) = nI 0) (by omega) (by omega)).mpr h2
      show am_WP (am_psh g none :: gs) (d + 1) (mk (up3 I 0 b (3) (((if 99 < ((I 0 b 3) + 1) then 99 else ((I 0 b 3) + 1))))) X) Q
      try rw [tk1]
      try rw [tk0]
      exact k1 h1 nh2
  · have h1 := bI_1.mp h1
    have bd : (β.1 2) ≤ 1 := hg.2.2.1
    have tk5 : (up3 I 0 b (3) (((if 99 < ((I 0 b 3) + 1) then 99 else ((I 0 b 3) + 1))))) 0 b 4 = nI (β.1 2) := by first | exact ((up3_j (by decide))).trans ((hB 2 (by omega)).1) | (((try rw [tk1]); (try rw [tk0])); first | done | exact ((up3_j (by decide))).trans ((hB 2 (by omega)).1))
    refine am_if (fun h3 => ?_) (fun h3 => ?_)
    · have nh3 := (eq_nat (a := (β.1 2)) (b := 1) tk5 (rfl : (1 : Int32) = nI 1) (by omega) (by omega)).mp h3
      have bd : (β.2.2 5) ≤ 24 := (hg.2.2.2.2.2 _ (by omega)).2
      have tk6 : (up3 I 0 b (3) (((if 99 < ((I 0 b 3) + 1) then 99 else ((I 0 b 3) + 1))))) 17 b 5 = nI (β.2.2 5) := by first | exact (hB _ (by omega)).2.2 | (((try rw [tk1]); (try rw [tk0])); first | done | exact (hB _ (by omega)).2.2)
      have tk7 : (if (((up3 I 0 b (3) (((if 99 < ((I 0 b 3) + 1) then 99 else ((I 0 b 3) + 1))))) 17 b 5) - nI w) < 0 then 0 else (((up3 I 0 b (3) (((if 99 < ((I 0 b 3) + 1) then 99 else ((I 0 b 3) + 1))))) 17 b 5) - nI w)) = nI ((β.2.2 5) - w) := by first | exact mxE tk6 (rfl : (nI w : Int32) = nI w) (by omega) (by omega) | (((try rw [tk6]); (try rw [tk1]); (try rw [tk0])); first | done | exact mxE tk6 (rfl : (nI w : Int32) = nI w) (by omega) (by omega))
      show am_WP (am_psh g none :: gs) (d + 1) (mk (up3 (up3 I 0 b (3) (((if 99 < ((I 0 b 3) + 1) then 99 else ((I 0 b 3) + 1))))) 17 b (5) (((if (((up3 I 0 b (3) (((if 99 < ((I 0 b 3) + 1) then 99 else ((I 0 b 3) + 1))))) 17 b 5) - nI w) < 0 then 0 else (((up3 I 0 b (3) (((if 99 < ((I 0 b 3) + 1) then 99 else ((I 0 b 3) + 1))))) 17 b 5) - nI w))))) X) Q
      try rw [tk7]
      try rw [tk6]
      try rw [tk1]
      try rw [tk0]
      exact k2 h1 nh3
    · have nh3 := mt (eq_nat (a := (β.1 2)) (b := 1) tk5 (rfl : (1 : Int32) = nI 1) (by omega) (by omega)).mpr h3
      refine am_f (bI_1.mpr h1) ?_
      show am_WP (am_psh g none :: gs) (d + 1) (mk (up3 I 0 b (3) (((if 99 < ((I 0 b 3) + 1) then 99 else ((I 0 b 3) + 1))))) X) Q
      try rw [tk1]
      try rw [tk0]
      exact k3 h1 nh3
theorem b0_RC {I : Im} {b j v : Nat} {β : Bn} {x : Int32} (hB : RB (cB I b) β) (hj : j < 6) (hx : x = nI v) : RB (cB (up3 I 0 b (j + 2) x) b) (b0 β j v) :=
  RB_0 hB hx (fun i hi => by
    show up3 I 0 b (j + 2) x 0 b (i + 2) = if i = j then x else I 0 b (i + 2)
    rw [up3_at]
    by_cases e : i = j
    · rw [if_pos (by omega), if_pos e]
    · rw [if_neg (by omega), if_neg e]) (fun _ _ => rfl) (fun _ _ => rfl)
theorem b1_RC {I : Im} {b j v : Nat} {β : Bn} {x : Int32} (hB : RB (cB I b) β) (hx : x = nI v) : RB (cB (up3 I 16 b j x) b) (b1 β j v) :=
  RB_1 hB hx (fun _ _ => rfl) (fun i hi => (up3_at i : up3 I 16 b j x 16 b i = _)) (fun _ _ => rfl)
theorem b2_RC {I : Im} {b j v : Nat} {β : Bn} {x : Int32} (hB : RB (cB I b) β) (hx : x = nI v) : RB (cB (up3 I 17 b j x) b) (b2 β j v) :=
  RB_2 hB hx (fun _ _ => rfl) (fun _ _ => rfl) (fun i hi => (up3_at i : up3 I 17 b j x 17 b i = _))
theorem c_X0_age {I X d} {q b w : Nat} {β : Bn} {dp : Prop} [Decidable dp] {x : Int32} (hq : q = b) (hB : RB (cB I b) β) (hg : GB β) (hx : x = nI w) (hw : w ≤ 5) : Sw mX0_age [.inr (.inr (some (0, q))), .inl (bI dp), .inl x] d I X none (fun I' => RB (cB I' b) (ageN dp w β) ∧ FrQ b I I') := fun g gs Q K => by
  subst hx
  subst hq
  have F1 := FrQ_3 (q := q) (j := 3) (v := nI (min (β.1 1 + 1) 99)) (FrQ_r (I := I)) (Or.inl rfl)
  refine w_X0_age hB hg hw ?_ ?_ ?_ ?_
  · intro h1 h2; exact K _ ⟨by unfold ageN; rw [if_neg h1, if_pos h2]; exact b1_RC (b0_RC (j := 1) hB (by decide) rfl) rfl, FrQ_3 F1 (by decide)⟩
  · intro h1 h2; exact K _ ⟨by unfold ageN; rw [if_neg h1, if_neg h2]; exact b0_RC (j := 1) hB (by decide) rfl, F1⟩
  · intro h1 h2; exact K _ ⟨by unfold ageN; rw [if_pos h1, if_pos h2]; exact b2_RC (b0_RC (j := 1) hB (by decide) rfl) rfl, FrQ_3 F1 (by decide)⟩
  · intro h1 h2; exact K _ ⟨by unfold ageN; rw [if_pos h1, if_neg h2]; exact b0_RC (j := 1) hB (by decide) rfl, F1⟩
