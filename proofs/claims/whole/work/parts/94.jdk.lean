/-! the words and signs of the class -/
set_option maxRecDepth 100000 in
set_option maxHeartbeats 4000000 in
theorem w_len_0 {I : Nat → Nat → Nat → Int32} {X : am_Z} {g : am_F} {gs : List am_F} {d : Nat} {Q : Option am_V → am_M → Prop}  (k0 : am_WP (am_psh g (some (.inl (4))) :: gs) (d + 2) (mk I X) Q) : am_WP (am_entry mJ0_length_8abf5 [.inr (.inr (some (100, 0)))] :: g :: gs) (d + 1) (mk I X) Q := by
  refine am_go 400 ?_
  refine am_go 400 ?_
  refine am_go 400 ?_
  exact k0
theorem c_len_0 {I X d} : Rt mJ0_length_8abf5 [.inr (.inr (some (100, 0)))] (d + 1) (mk I X) (some (.inl 4)) (mk I X) := fun g gs Q K => w_len_0 K
set_option maxRecDepth 100000 in
set_option maxHeartbeats 4000000 in
theorem w_chr_0_0 {I : Nat → Nat → Nat → Int32} {X : am_Z} {g : am_F} {gs : List am_F} {d : Nat} {Q : Option am_V → am_M → Prop}  (k0 : am_WP (am_psh g (some (.inl (104))) :: gs) (d + 4) (mk I X) Q) : am_WP (am_entry mJ0_charAt_5068e [.inr (.inr (some (100, 0))), .inl (0)] :: g :: gs) (d + 3) (mk I X) Q := by
  refine am_go 400 ?_
  refine am_go 400 ?_
  refine am_go 400 ?_
  refine am_go 400 ?_
  refine am_go 400 ?_
  refine am_go 400 ?_
  refine am_go 400 ?_
  refine am_go 400 ?_
  refine am_go 400 ?_
  exact k0
theorem c_chr_0_0 {I X d} : Rt mJ0_charAt_5068e [.inr (.inr (some (100, 0))), .inl 0] (d + 3) (mk I X) (some (.inl 104)) (mk I X) := fun g gs Q K => w_chr_0_0 K
set_option maxRecDepth 100000 in
set_option maxHeartbeats 4000000 in
theorem w_chr_0_1 {I : Nat → Nat → Nat → Int32} {X : am_Z} {g : am_F} {gs : List am_F} {d : Nat} {Q : Option am_V → am_M → Prop}  (k0 : am_WP (am_psh g (some (.inl (97))) :: gs) (d + 4) (mk I X) Q) : am_WP (am_entry mJ0_charAt_5068e [.inr (.inr (some (100, 0))), .inl (1)] :: g :: gs) (d + 3) (mk I X) Q := by
  refine am_go 400 ?_
  refine am_go 400 ?_
  refine am_go 400 ?_
  refine am_go 400 ?_
  refine am_go 400 ?_
  refine am_go 400 ?_
  refine am_go 400 ?_
  refine am_go 400 ?_
  refine am_go 400 ?_
  exact k0
theorem c_chr_0_1 {I X d} : Rt mJ0_charAt_5068e [.inr (.inr (some (100, 0))), .inl 1] (d + 3) (mk I X) (some (.inl 97)) (mk I X) := fun g gs Q K => w_chr_0_1 K
set_option maxRecDepth 100000 in
set_option maxHeartbeats 4000000 in
theorem w_chr_0_2 {I : Nat → Nat → Nat → Int32} {X : am_Z} {g : am_F} {gs : List am_F} {d : Nat} {Q : Option am_V → am_M → Prop}  (k0 : am_WP (am_psh g (some (.inl (114))) :: gs) (d + 4) (mk I X) Q) : am_WP (am_entry mJ0_charAt_5068e [.inr (.inr (some (100, 0))), .inl (2)] :: g :: gs) (d + 3) (mk I X) Q := by
  refine am_go 400 ?_
  refine am_go 400 ?_
  refine am_go 400 ?_
  refine am_go 400 ?_
  refine am_go 400 ?_
  refine am_go 400 ?_
  refine am_go 400 ?_
  refine am_go 400 ?_
  refine am_go 400 ?_
  exact k0
theorem c_chr_0_2 {I X d} : Rt mJ0_charAt_5068e [.inr (.inr (some (100, 0))), .inl 2] (d + 3) (mk I X) (some (.inl 114)) (mk I X) := fun g gs Q K => w_chr_0_2 K
set_option maxRecDepth 100000 in
set_option maxHeartbeats 4000000 in
theorem w_chr_0_3 {I : Nat → Nat → Nat → Int32} {X : am_Z} {g : am_F} {gs : List am_F} {d : Nat} {Q : Option am_V → am_M → Prop}  (k0 : am_WP (am_psh g (some (.inl (100))) :: gs) (d + 4) (mk I X) Q) : am_WP (am_entry mJ0_charAt_5068e [.inr (.inr (some (100, 0))), .inl (3)] :: g :: gs) (d + 3) (mk I X) Q := by
  refine am_go 400 ?_
  refine am_go 400 ?_
  refine am_go 400 ?_
  refine am_go 400 ?_
  refine am_go 400 ?_
  refine am_go 400 ?_
  refine am_go 400 ?_
  refine am_go 400 ?_
  refine am_go 400 ?_
  exact k0
theorem c_chr_0_3 {I X d} : Rt mJ0_charAt_5068e [.inr (.inr (some (100, 0))), .inl 3] (d + 3) (mk I X) (some (.inl 100)) (mk I X) := fun g gs Q K => w_chr_0_3 K
set_option maxRecDepth 100000 in
set_option maxHeartbeats 4000000 in
theorem w_len_1 {I : Nat → Nat → Nat → Int32} {X : am_Z} {g : am_F} {gs : List am_F} {d : Nat} {Q : Option am_V → am_M → Prop}  (k0 : am_WP (am_psh g (some (.inl (3))) :: gs) (d + 2) (mk I X) Q) : am_WP (am_entry mJ0_length_8abf5 [.inr (.inr (some (100, 1)))] :: g :: gs) (d + 1) (mk I X) Q := by
  refine am_go 400 ?_
  refine am_go 400 ?_
  refine am_go 400 ?_
  exact k0
theorem c_len_1 {I X d} : Rt mJ0_length_8abf5 [.inr (.inr (some (100, 1)))] (d + 1) (mk I X) (some (.inl 3)) (mk I X) := fun g gs Q K => w_len_1 K
set_option maxRecDepth 100000 in
set_option maxHeartbeats 4000000 in
theorem w_chr_1_0 {I : Nat → Nat → Nat → Int32} {X : am_Z} {g : am_F} {gs : List am_F} {d : Nat} {Q : Option am_V → am_M → Prop}  (k0 : am_WP (am_psh g (some (.inl (102))) :: gs) (d + 4) (mk I X) Q) : am_WP (am_entry mJ0_charAt_5068e [.inr (.inr (some (100, 1))), .inl (0)] :: g :: gs) (d + 3) (mk I X) Q := by
  refine am_go 400 ?_
  refine am_go 400 ?_
  refine am_go 400 ?_
  refine am_go 400 ?_
  refine am_go 400 ?_
  refine am_go 400 ?_
  refine am_go 400 ?_
  refine am_go 400 ?_
  refine am_go 400 ?_
  exact k0
theorem c_chr_1_0 {I X d} : Rt mJ0_charAt_5068e [.inr (.inr (some (100, 1))), .inl 0] (d + 3) (mk I X) (some (.inl 102)) (mk I X) := fun g gs Q K => w_chr_1_0 K
set_option maxRecDepth 100000 in
set_option maxHeartbeats 4000000 in
theorem w_chr_1_1 {I : Nat → Nat → Nat → Int32} {X : am_Z} {g : am_F} {gs : List am_F} {d : Nat} {Q : Option am_V → am_M → Prop}  (k0 : am_WP (am_psh g (some (.inl (101))) :: gs) (d + 4) (mk I X) Q) : am_WP (am_entry mJ0_charAt_5068e [.inr (.inr (some (100, 1))), .inl (1)] :: g :: gs) (d + 3) (mk I X) Q := by
  refine am_go 400 ?_
  refine am_go 400 ?_
  refine am_go 400 ?_
  refine am_go 400 ?_
  refine am_go 400 ?_
  refine am_go 400 ?_
  refine am_go 400 ?_
  refine am_go 400 ?_
  refine am_go 400 ?_
  exact k0
theorem c_chr_1_1 {I X d} : Rt mJ0_charAt_5068e [.inr (.inr (some (100, 1))), .inl 1] (d + 3) (mk I X) (some (.inl 101)) (mk I X) := fun g gs Q K => w_chr_1_1 K
set_option maxRecDepth 100000 in
set_option maxHeartbeats 4000000 in
theorem w_chr_1_2 {I : Nat → Nat → Nat → Int32} {X : am_Z} {g : am_F} {gs : List am_F} {d : Nat} {Q : Option am_V → am_M → Prop}  (k0 : am_WP (am_psh g (some (.inl (101))) :: gs) (d + 4) (mk I X) Q) : am_WP (am_entry mJ0_charAt_5068e [.inr (.inr (some (100, 1))), .inl (2)] :: g :: gs) (d + 3) (mk I X) Q := by
  refine am_go 400 ?_
  refine am_go 400 ?_
  refine am_go 400 ?_
  refine am_go 400 ?_
  refine am_go 400 ?_
  refine am_go 400 ?_
  refine am_go 400 ?_
  refine am_go 400 ?_
  refine am_go 400 ?_
  exact k0
theorem c_chr_1_2 {I X d} : Rt mJ0_charAt_5068e [.inr (.inr (some (100, 1))), .inl 2] (d + 3) (mk I X) (some (.inl 101)) (mk I X) := fun g gs Q K => w_chr_1_2 K
set_option maxRecDepth 100000 in
set_option maxHeartbeats 4000000 in
theorem w_len_2 {I : Nat → Nat → Nat → Int32} {X : am_Z} {g : am_F} {gs : List am_F} {d : Nat} {Q : Option am_V → am_M → Prop}  (k0 : am_WP (am_psh g (some (.inl (4))) :: gs) (d + 2) (mk I X) Q) : am_WP (am_entry mJ0_length_8abf5 [.inr (.inr (some (100, 2)))] :: g :: gs) (d + 1) (mk I X) Q := by
  refine am_go 400 ?_
  refine am_go 400 ?_
  refine am_go 400 ?_
  exact k0
theorem c_len_2 {I X d} : Rt mJ0_length_8abf5 [.inr (.inr (some (100, 2)))] (d + 1) (mk I X) (some (.inl 4)) (mk I X) := fun g gs Q K => w_len_2 K
set_option maxRecDepth 100000 in
set_option maxHeartbeats 4000000 in
theorem w_chr_2_0 {I : Nat → Nat → Nat → Int32} {X : am_Z} {g : am_F} {gs : List am_F} {d : Nat} {Q : Option am_V → am_M → Prop}  (k0 : am_WP (am_psh g (some (.inl (102))) :: gs) (d + 4) (mk I X) Q) : am_WP (am_entry mJ0_charAt_5068e [.inr (.inr (some (100, 2))), .inl (0)] :: g :: gs) (d + 3) (mk I X) Q := by
  refine am_go 400 ?_
  refine am_go 400 ?_
  refine am_go 400 ?_
  refine am_go 400 ?_
  refine am_go 400 ?_
  refine am_go 400 ?_
  refine am_go 400 ?_
  refine am_go 400 ?_
  refine am_go 400 ?_
  exact k0
theorem c_chr_2_0 {I X d} : Rt mJ0_charAt_5068e [.inr (.inr (some (100, 2))), .inl 0] (d + 3) (mk I X) (some (.inl 102)) (mk I X) := fun g gs Q K => w_chr_2_0 K
set_option maxRecDepth 100000 in
set_option maxHeartbeats 4000000 in
theorem w_chr_2_1 {I : Nat → Nat → Nat → Int32} {X : am_Z} {g : am_F} {gs : List am_F} {d : Nat} {Q : Option am_V → am_M → Prop}  (k0 : am_WP (am_psh g (some (.inl (105))) :: gs) (d + 4) (mk I X) Q) : am_WP (am_entry mJ0_charAt_5068e [.inr (.inr (some (100, 2))), .inl (1)] :: g :: gs) (d + 3) (mk I X) Q := by
  refine am_go 400 ?_
  refine am_go 400 ?_
  refine am_go 400 ?_
  refine am_go 400 ?_
  refine am_go 400 ?_
  refine am_go 400 ?_
  refine am_go 400 ?_
  refine am_go 400 ?_
  refine am_go 400 ?_
  exact k0
theorem c_chr_2_1 {I X d} : Rt mJ0_charAt_5068e [.inr (.inr (some (100, 2))), .inl 1] (d + 3) (mk I X) (some (.inl 105)) (mk I X) := fun g gs Q K => w_chr_2_1 K
set_option maxRecDepth 100000 in
set_option maxHeartbeats 4000000 in
theorem w_chr_2_2 {I : Nat → Nat → Nat → Int32} {X : am_Z} {g : am_F} {gs : List am_F} {d : Nat} {Q : Option am_V → am_M → Prop}  (k0 : am_WP (am_psh g (some (.inl (110))) :: gs) (d + 4) (mk I X) Q) : am_WP (am_entry mJ0_charAt_5068e [.inr (.inr (some (100, 2))), .inl (2)] :: g :: gs) (d + 3) (mk I X) Q := by
  refine am_go 400 ?_
  refine am_go 400 ?_
  refine am_go 400 ?_
  refine am_go 400 ?_
  refine am_go 400 ?_
  refine am_go 400 ?_
  refine am_go 400 ?_
  refine am_go 400 ?_
  refine am_go 400 ?_
  exact k0
theorem c_chr_2_2 {I X d} : Rt mJ0_charAt_5068e [.inr (.inr (some (100, 2))), .inl 2] (d + 3) (mk I X) (some (.inl 110)) (mk I X) := fun g gs Q K => w_chr_2_2 K
set_option maxRecDepth 100000 in
set_option maxHeartbeats 4000000 in
theorem w_chr_2_3 {I : Nat → Nat → Nat → Int32} {X : am_Z} {g : am_F} {gs : List am_F} {d : Nat} {Q : Option am_V → am_M → Prop}  (k0 : am_WP (am_psh g (some (.inl (101))) :: gs) (d + 4) (mk I X) Q) : am_WP (am_entry mJ0_charAt_5068e [.inr (.inr (some (100, 2))), .inl (3)] :: g :: gs) (d + 3) (mk I X) Q := by
  refine am_go 400 ?_
  refine am_go 400 ?_
  refine am_go 400 ?_
  refine am_go 400 ?_
  refine am_go 400 ?_
  refine am_go 400 ?_
  refine am_go 400 ?_
  refine am_go 400 ?_
  refine am_go 400 ?_
  exact k0
theorem c_chr_2_3 {I X d} : Rt mJ0_charAt_5068e [.inr (.inr (some (100, 2))), .inl 3] (d + 3) (mk I X) (some (.inl 101)) (mk I X) := fun g gs Q K => w_chr_2_3 K
theorem b8_lo : ∀ b, b < 128 → (nI b).toInt8.toInt32 = nI b := by decide +kernel
theorem b8_hi : ∀ b, b < 128 → (nI (b + 128)).toInt8.toInt32 < 0 := by decide +kernel
theorem b8 {b k : Nat} {c : Int32} (hc : c = nI b) (hb : b < 256) (hk : k < 128) : nI k = c.toInt8.toInt32 ↔ b = k := by
  rw [hc]
  by_cases h : b < 128
  · rw [b8_lo b h, nI_eq (by omega) (by omega)]
    exact ⟨fun e => e.symm, fun e => e.symm⟩
  · have e := b8_hi (b - 128) (by omega)
    rw [show b - 128 + 128 = b by omega] at e
    constructor
    · intro z
      rw [← z] at e
      have : ¬ nI k < nI 0 := by rw [nI_ltI (by omega) (by omega)]; omega
      exact absurd e this
    · intro z; omega
theorem i2c_b {b : Nat} (hb : b < 256) : ((nI b).toUInt32 % 65536).toInt32 = nI b := by
  have h : ∀ b, b < 256 → ((nI b).toUInt32 % 65536).toInt32 = nI b := by decide +kernel
  exact h b hb
def sgJ (b : Nat) : Int32 := if sgI b = 9 then -1 else nI (sgI b)
def nmJ (key b : Nat) : Int32 := match nmI key b with
  | none => -1
  | some i => nI i
set_option maxRecDepth 100000 in
set_option maxHeartbeats 4000000 in
theorem w_idx_3 {I : Nat → Nat → Nat → Int32} {X : am_Z} {g : am_F} {gs : List am_F} {d : Nat} {Q : Option am_V → am_M → Prop} {b : Nat} {c : Int32} (hc : c = nI b) (hb : b < 256) (k0 : ((115 : Int32) = (c : Int32).toInt8.toInt32) → am_WP (am_psh g (some (.inl (0))) :: gs) (d + 4) (mk I X) Q) (k1 : (¬ (115 : Int32) = (c : Int32).toInt8.toInt32) → ((121 : Int32) = (c : Int32).toInt8.toInt32) → am_WP (am_psh g (some (.inl (1))) :: gs) (d + 4) (mk I X) Q) (k2 : (¬ (115 : Int32) = (c : Int32).toInt8.toInt32) → (¬ (121 : Int32) = (c : Int32).toInt8.toInt32) → ((108 : Int32) = (c : Int32).toInt8.toInt32) → am_WP (am_psh g (some (.inl (2))) :: gs) (d + 4) (mk I X) Q) (k3 : (¬ (115 : Int32) = (c : Int32).toInt8.toInt32) → (¬ (121 : Int32) = (c : Int32).toInt8.toInt32) → (¬ (108 : Int32) = (c : Int32).toInt8.toInt32) → am_WP (am_psh g (some (.inl ((-1)))) :: gs) (d + 4) (mk I X) Q) : am_WP (am_entry mJ0_indexOf_0f7a4 [.inr (.inr (some (100, 3))), .inl (c)] :: g :: gs) (d + 3) (mk I X) Q := by
  refine am_go 400 ?_
  refine am_go 400 ?_
  refine am_go 400 ?_
  refine am_go 400 ?_
  refine am_go 400 ?_
  refine am_go 400 ?_
  refine am_go 400 ?_
  refine am_go 400 ?_
  refine am_go 400 ?_
  refine am_go 400 ?_
  refine am_f (mt (lt_nat (a := b) (b := 0) hc (rfl : (0 : Int32) = nI 0) (by omega) (by omega)).mp (by omega)) ?_
  refine am_f (mt (lt_nat (a := 255) (b := b) (rfl : (255 : Int32) = nI 255) hc (by omega) (by omega)).mp (by omega)) ?_
  refine am_go 400 ?_
  refine am_go 400 ?_
  refine am_if (fun h1 => ?_) (fun h1 => ?_)
  · refine am_go 400 ?_
    refine am_go 400 ?_
    refine am_go 400 ?_
    exact k0 h1
  · refine am_go 400 ?_
    refine am_if (fun h2 => ?_) (fun h2 => ?_)
    · refine am_go 400 ?_
      refine am_go 400 ?_
      refine am_go 400 ?_
      exact k1 h1 h2
    · refine am_go 400 ?_
      refine am_if (fun h3 => ?_) (fun h3 => ?_)
      · refine am_go 400 ?_
        refine am_go 400 ?_
        refine am_go 400 ?_
        exact k2 h1 h2 h3
      · refine am_go 400 ?_
        refine am_go 400 ?_
        refine am_go 400 ?_
        refine am_go 400 ?_
        exact k3 h1 h2 h3
theorem c_idx_3 {I X d} {b : Nat} {c : Int32} (hc : c = nI b) (hb : b < 256) : Rt mJ0_indexOf_0f7a4 [.inr (.inr (some (100, 3))), .inl c] (d + 3) (mk I X) (some (.inl (nmJ 0 b))) (mk I X) := fun g gs Q K => by
  have e0 := b8 (k := 115) hc hb (by decide)
  have e1 := b8 (k := 121) hc hb (by decide)
  have e2 := b8 (k := 108) hc hb (by decide)
  refine w_idx_3 hc hb ?_ ?_ ?_ ?_
  · intro h0
    have q : nmI 0 b = some 0 := by unfold nmI; rw [if_pos rfl, if_pos (e0.mp h0)]
    exact K_v (by unfold nmJ; rw [q]; (try rfl)) K
  · intro h0 h1
    have q : nmI 0 b = some 1 := by unfold nmI; rw [if_pos rfl, if_neg (mt e0.mpr h0), if_pos (e1.mp h1)]
    exact K_v (by unfold nmJ; rw [q]; (try rfl)) K
  · intro h0 h1 h2
    have q : nmI 0 b = some 2 := by unfold nmI; rw [if_pos rfl, if_neg (mt e0.mpr h0), if_neg (mt e1.mpr h1), if_pos (e2.mp h2)]
    exact K_v (by unfold nmJ; rw [q]; (try rfl)) K
  · intro h0 h1 h2
    have q : nmI 0 b = none := by unfold nmI; rw [if_pos rfl, if_neg (mt e0.mpr h0), if_neg (mt e1.mpr h1), if_neg (mt e2.mpr h2)]
    exact K_v (by unfold nmJ; rw [q]; (try rfl)) K

set_option maxRecDepth 100000 in
set_option maxHeartbeats 4000000 in
theorem w_idx_4 {I : Nat → Nat → Nat → Int32} {X : am_Z} {g : am_F} {gs : List am_F} {d : Nat} {Q : Option am_V → am_M → Prop} {b : Nat} {c : Int32} (hc : c = nI b) (hb : b < 256) (k0 : ((99 : Int32) = (c : Int32).toInt8.toInt32) → am_WP (am_psh g (some (.inl (0))) :: gs) (d + 4) (mk I X) Q) (k1 : (¬ (99 : Int32) = (c : Int32).toInt8.toInt32) → ((121 : Int32) = (c : Int32).toInt8.toInt32) → am_WP (am_psh g (some (.inl (1))) :: gs) (d + 4) (mk I X) Q) (k2 : (¬ (99 : Int32) = (c : Int32).toInt8.toInt32) → (¬ (121 : Int32) = (c : Int32).toInt8.toInt32) → am_WP (am_psh g (some (.inl ((-1)))) :: gs) (d + 4) (mk I X) Q) : am_WP (am_entry mJ0_indexOf_0f7a4 [.inr (.inr (some (100, 4))), .inl (c)] :: g :: gs) (d + 3) (mk I X) Q := by
  refine am_go 400 ?_
  refine am_go 400 ?_
  refine am_go 400 ?_
  refine am_go 400 ?_
  refine am_go 400 ?_
  refine am_go 400 ?_
  refine am_go 400 ?_
  refine am_go 400 ?_
  refine am_go 400 ?_
  refine am_go 400 ?_
  refine am_f (mt (lt_nat (a := b) (b := 0) hc (rfl : (0 : Int32) = nI 0) (by omega) (by omega)).mp (by omega)) ?_
  refine am_f (mt (lt_nat (a := 255) (b := b) (rfl : (255 : Int32) = nI 255) hc (by omega) (by omega)).mp (by omega)) ?_
  refine am_go 400 ?_
  refine am_go 400 ?_
  refine am_if (fun h1 => ?_) (fun h1 => ?_)
  · refine am_go 400 ?_
    refine am_go 400 ?_
    refine am_go 400 ?_
    exact k0 h1
  · refine am_go 400 ?_
    refine am_if (fun h2 => ?_) (fun h2 => ?_)
    · refine am_go 400 ?_
      refine am_go 400 ?_
      refine am_go 400 ?_
      exact k1 h1 h2
    · refine am_go 400 ?_
      refine am_go 400 ?_
      refine am_go 400 ?_
      refine am_go 400 ?_
      exact k2 h1 h2
theorem c_idx_4 {I X d} {b : Nat} {c : Int32} (hc : c = nI b) (hb : b < 256) : Rt mJ0_indexOf_0f7a4 [.inr (.inr (some (100, 4))), .inl c] (d + 3) (mk I X) (some (.inl (nmJ 1 b))) (mk I X) := fun g gs Q K => by
  have e0 := b8 (k := 99) hc hb (by decide)
  have e1 := b8 (k := 121) hc hb (by decide)
  refine w_idx_4 hc hb ?_ ?_ ?_
  · intro h0
    have q : nmI 1 b = some 0 := by unfold nmI; rw [if_neg (by decide), if_pos rfl, if_pos (e0.mp h0)]
    exact K_v (by unfold nmJ; rw [q]; (try rfl)) K
  · intro h0 h1
    have q : nmI 1 b = some 1 := by unfold nmI; rw [if_neg (by decide), if_pos rfl, if_neg (mt e0.mpr h0), if_pos (e1.mp h1)]
    exact K_v (by unfold nmJ; rw [q]; (try rfl)) K
  · intro h0 h1
    have q : nmI 1 b = none := by unfold nmI; rw [if_neg (by decide), if_pos rfl, if_neg (mt e0.mpr h0), if_neg (mt e1.mpr h1)]
    exact K_v (by unfold nmJ; rw [q]; (try rfl)) K

set_option maxRecDepth 100000 in
set_option maxHeartbeats 4000000 in
theorem w_idx_5 {I : Nat → Nat → Nat → Int32} {X : am_Z} {g : am_F} {gs : List am_F} {d : Nat} {Q : Option am_V → am_M → Prop} {b : Nat} {c : Int32} (hc : c = nI b) (hb : b < 256) (k0 : ((121 : Int32) = (c : Int32).toInt8.toInt32) → am_WP (am_psh g (some (.inl (0))) :: gs) (d + 4) (mk I X) Q) (k1 : (¬ (121 : Int32) = (c : Int32).toInt8.toInt32) → ((108 : Int32) = (c : Int32).toInt8.toInt32) → am_WP (am_psh g (some (.inl (1))) :: gs) (d + 4) (mk I X) Q) (k2 : (¬ (121 : Int32) = (c : Int32).toInt8.toInt32) → (¬ (108 : Int32) = (c : Int32).toInt8.toInt32) → am_WP (am_psh g (some (.inl ((-1)))) :: gs) (d + 4) (mk I X) Q) : am_WP (am_entry mJ0_indexOf_0f7a4 [.inr (.inr (some (100, 5))), .inl (c)] :: g :: gs) (d + 3) (mk I X) Q := by
  refine am_go 400 ?_
  refine am_go 400 ?_
  refine am_go 400 ?_
  refine am_go 400 ?_
  refine am_go 400 ?_
  refine am_go 400 ?_
  refine am_go 400 ?_
  refine am_go 400 ?_
  refine am_go 400 ?_
  refine am_go 400 ?_
  refine am_f (mt (lt_nat (a := b) (b := 0) hc (rfl : (0 : Int32) = nI 0) (by omega) (by omega)).mp (by omega)) ?_
  refine am_f (mt (lt_nat (a := 255) (b := b) (rfl : (255 : Int32) = nI 255) hc (by omega) (by omega)).mp (by omega)) ?_
  refine am_go 400 ?_
  refine am_go 400 ?_
  refine am_if (fun h1 => ?_) (fun h1 => ?_)
  · refine am_go 400 ?_
    refine am_go 400 ?_
    refine am_go 400 ?_
    exact k0 h1
  · refine am_go 400 ?_
    refine am_if (fun h2 => ?_) (fun h2 => ?_)
    · refine am_go 400 ?_
      refine am_go 400 ?_
      refine am_go 400 ?_
      exact k1 h1 h2
    · refine am_go 400 ?_
      refine am_go 400 ?_
      refine am_go 400 ?_
      refine am_go 400 ?_
      exact k2 h1 h2
theorem c_idx_5 {I X d} {b : Nat} {c : Int32} (hc : c = nI b) (hb : b < 256) : Rt mJ0_indexOf_0f7a4 [.inr (.inr (some (100, 5))), .inl c] (d + 3) (mk I X) (some (.inl (nmJ 2 b))) (mk I X) := fun g gs Q K => by
  have e0 := b8 (k := 121) hc hb (by decide)
  have e1 := b8 (k := 108) hc hb (by decide)
  refine w_idx_5 hc hb ?_ ?_ ?_
  · intro h0
    have q : nmI 2 b = some 0 := by unfold nmI; rw [if_neg (by decide), if_neg (by decide), if_pos (e0.mp h0)]
    exact K_v (by unfold nmJ; rw [q]; (try rfl)) K
  · intro h0 h1
    have q : nmI 2 b = some 1 := by unfold nmI; rw [if_neg (by decide), if_neg (by decide), if_neg (mt e0.mpr h0), if_pos (e1.mp h1)]
    exact K_v (by unfold nmJ; rw [q]; (try rfl)) K
  · intro h0 h1
    have q : nmI 2 b = none := by unfold nmI; rw [if_neg (by decide), if_neg (by decide), if_neg (mt e0.mpr h0), if_neg (mt e1.mpr h1)]
    exact K_v (by unfold nmJ; rw [q]; (try rfl)) K

set_option maxRecDepth 100000 in
set_option maxHeartbeats 4000000 in
theorem w_idx_6 {I : Nat → Nat → Nat → Int32} {X : am_Z} {g : am_F} {gs : List am_F} {d : Nat} {Q : Option am_V → am_M → Prop} {b : Nat} {c : Int32} (hc : c = nI b) (hb : b < 256) (k0 : ((124 : Int32) = (c : Int32).toInt8.toInt32) → am_WP (am_psh g (some (.inl (0))) :: gs) (d + 4) (mk I X) Q) (k1 : (¬ (124 : Int32) = (c : Int32).toInt8.toInt32) → ((38 : Int32) = (c : Int32).toInt8.toInt32) → am_WP (am_psh g (some (.inl (1))) :: gs) (d + 4) (mk I X) Q) (k2 : (¬ (124 : Int32) = (c : Int32).toInt8.toInt32) → (¬ (38 : Int32) = (c : Int32).toInt8.toInt32) → ((60 : Int32) = (c : Int32).toInt8.toInt32) → am_WP (am_psh g (some (.inl (2))) :: gs) (d + 4) (mk I X) Q) (k3 : (¬ (124 : Int32) = (c : Int32).toInt8.toInt32) → (¬ (38 : Int32) = (c : Int32).toInt8.toInt32) → (¬ (60 : Int32) = (c : Int32).toInt8.toInt32) → ((61 : Int32) = (c : Int32).toInt8.toInt32) → am_WP (am_psh g (some (.inl (3))) :: gs) (d + 4) (mk I X) Q) (k4 : (¬ (124 : Int32) = (c : Int32).toInt8.toInt32) → (¬ (38 : Int32) = (c : Int32).toInt8.toInt32) → (¬ (60 : Int32) = (c : Int32).toInt8.toInt32) → (¬ (61 : Int32) = (c : Int32).toInt8.toInt32) → ((62 : Int32) = (c : Int32).toInt8.toInt32) → am_WP (am_psh g (some (.inl (4))) :: gs) (d + 4) (mk I X) Q) (k5 : (¬ (124 : Int32) = (c : Int32).toInt8.toInt32) → (¬ (38 : Int32) = (c : Int32).toInt8.toInt32) → (¬ (60 : Int32) = (c : Int32).toInt8.toInt32) → (¬ (61 : Int32) = (c : Int32).toInt8.toInt32) → (¬ (62 : Int32) = (c : Int32).toInt8.toInt32) → ((43 : Int32) = (c : Int32).toInt8.toInt32) → am_WP (am_psh g (some (.inl (5))) :: gs) (d + 4) (mk I X) Q) (k6 : (¬ (124 : Int32) = (c : Int32).toInt8.toInt32) → (¬ (38 : Int32) = (c : Int32).toInt8.toInt32) → (¬ (60 : Int32) = (c : Int32).toInt8.toInt32) → (¬ (61 : Int32) = (c : Int32).toInt8.toInt32) → (¬ (62 : Int32) = (c : Int32).toInt8.toInt32) → (¬ (43 : Int32) = (c : Int32).toInt8.toInt32) → ((45 : Int32) = (c : Int32).toInt8.toInt32) → am_WP (am_psh g (some (.inl (6))) :: gs) (d + 4) (mk I X) Q) (k7 : (¬ (124 : Int32) = (c : Int32).toInt8.toInt32) → (¬ (38 : Int32) = (c : Int32).toInt8.toInt32) → (¬ (60 : Int32) = (c : Int32).toInt8.toInt32) → (¬ (61 : Int32) = (c : Int32).toInt8.toInt32) → (¬ (62 : Int32) = (c : Int32).toInt8.toInt32) → (¬ (43 : Int32) = (c : Int32).toInt8.toInt32) → (¬ (45 : Int32) = (c : Int32).toInt8.toInt32) → ((42 : Int32) = (c : Int32).toInt8.toInt32) → am_WP (am_psh g (some (.inl (7))) :: gs) (d + 4) (mk I X) Q) (k8 : (¬ (124 : Int32) = (c : Int32).toInt8.toInt32) → (¬ (38 : Int32) = (c : Int32).toInt8.toInt32) → (¬ (60 : Int32) = (c : Int32).toInt8.toInt32) → (¬ (61 : Int32) = (c : Int32).toInt8.toInt32) → (¬ (62 : Int32) = (c : Int32).toInt8.toInt32) → (¬ (43 : Int32) = (c : Int32).toInt8.toInt32) → (¬ (45 : Int32) = (c : Int32).toInt8.toInt32) → (¬ (42 : Int32) = (c : Int32).toInt8.toInt32) → ((47 : Int32) = (c : Int32).toInt8.toInt32) → am_WP (am_psh g (some (.inl (8))) :: gs) (d + 4) (mk I X) Q) (k9 : (¬ (124 : Int32) = (c : Int32).toInt8.toInt32) → (¬ (38 : Int32) = (c : Int32).toInt8.toInt32) → (¬ (60 : Int32) = (c : Int32).toInt8.toInt32) → (¬ (61 : Int32) = (c : Int32).toInt8.toInt32) → (¬ (62 : Int32) = (c : Int32).toInt8.toInt32) → (¬ (43 : Int32) = (c : Int32).toInt8.toInt32) → (¬ (45 : Int32) = (c : Int32).toInt8.toInt32) → (¬ (42 : Int32) = (c : Int32).toInt8.toInt32) → (¬ (47 : Int32) = (c : Int32).toInt8.toInt32) → am_WP (am_psh g (some (.inl ((-1)))) :: gs) (d + 4) (mk I X) Q) : am_WP (am_entry mJ0_indexOf_0f7a4 [.inr (.inr (some (100, 6))), .inl (c)] :: g :: gs) (d + 3) (mk I X) Q := by
  refine am_go 400 ?_
  refine am_go 400 ?_
  refine am_go 400 ?_
  refine am_go 400 ?_
  refine am_go 400 ?_
  refine am_go 400 ?_
  refine am_go 400 ?_
  refine am_go 400 ?_
  refine am_go 400 ?_
  refine am_go 400 ?_
  refine am_f (mt (lt_nat (a := b) (b := 0) hc (rfl : (0 : Int32) = nI 0) (by omega) (by omega)).mp (by omega)) ?_
  refine am_f (mt (lt_nat (a := 255) (b := b) (rfl : (255 : Int32) = nI 255) hc (by omega) (by omega)).mp (by omega)) ?_
  refine am_go 400 ?_
  refine am_go 400 ?_
  refine am_if (fun h1 => ?_) (fun h1 => ?_)
  · refine am_go 400 ?_
    refine am_go 400 ?_
    refine am_go 400 ?_
    exact k0 h1
  · refine am_go 400 ?_
    refine am_if (fun h2 => ?_) (fun h2 => ?_)
    · refine am_go 400 ?_
      refine am_go 400 ?_
      refine am_go 400 ?_
      exact k1 h1 h2
    · refine am_go 400 ?_
      refine am_if (fun h3 => ?_) (fun h3 => ?_)
      · refine am_go 400 ?_
        refine am_go 400 ?_
        refine am_go 400 ?_
        exact k2 h1 h2 h3
      · refine am_go 400 ?_
        refine am_if (fun h4 => ?_) (fun h4 => ?_)
        · refine am_go 400 ?_
          refine am_go 400 ?_
          refine am_go 400 ?_
          exact k3 h1 h2 h3 h4
        · refine am_go 400 ?_
          refine am_if (fun h5 => ?_) (fun h5 => ?_)
          · refine am_go 400 ?_
            refine am_go 400 ?_
            refine am_go 400 ?_
            exact k4 h1 h2 h3 h4 h5
          · refine am_go 400 ?_
            refine am_if (fun h6 => ?_) (fun h6 => ?_)
            · refine am_go 400 ?_
              refine am_go 400 ?_
              refine am_go 400 ?_
              exact k5 h1 h2 h3 h4 h5 h6
            · refine am_go 400 ?_
              refine am_if (fun h7 => ?_) (fun h7 => ?_)
              · refine am_go 400 ?_
                refine am_go 400 ?_
                refine am_go 400 ?_
                exact k6 h1 h2 h3 h4 h5 h6 h7
              · refine am_go 400 ?_
                refine am_if (fun h8 => ?_) (fun h8 => ?_)
                · refine am_go 400 ?_
                  refine am_go 400 ?_
                  refine am_go 400 ?_
                  exact k7 h1 h2 h3 h4 h5 h6 h7 h8
                · refine am_go 400 ?_
                  refine am_if (fun h9 => ?_) (fun h9 => ?_)
                  · refine am_go 400 ?_
                    refine am_go 400 ?_
                    refine am_go 400 ?_
                    exact k8 h1 h2 h3 h4 h5 h6 h7 h8 h9
                  · refine am_go 400 ?_
                    refine am_go 400 ?_
                    refine am_go 400 ?_
                    refine am_go 400 ?_
                    exact k9 h1 h2 h3 h4 h5 h6 h7 h8 h9
theorem c_idx_6 {I X d} {b : Nat} {c : Int32} (hc : c = nI b) (hb : b < 256) : Rt mJ0_indexOf_0f7a4 [.inr (.inr (some (100, 6))), .inl c] (d + 3) (mk I X) (some (.inl (sgJ b))) (mk I X) := fun g gs Q K => by
  have e0 := b8 (k := 124) hc hb (by decide)
  have e1 := b8 (k := 38) hc hb (by decide)
  have e2 := b8 (k := 60) hc hb (by decide)
  have e3 := b8 (k := 61) hc hb (by decide)
  have e4 := b8 (k := 62) hc hb (by decide)
  have e5 := b8 (k := 43) hc hb (by decide)
  have e6 := b8 (k := 45) hc hb (by decide)
  have e7 := b8 (k := 42) hc hb (by decide)
  have e8 := b8 (k := 47) hc hb (by decide)
  refine w_idx_6 hc hb ?_ ?_ ?_ ?_ ?_ ?_ ?_ ?_ ?_ ?_
  · intro h0
    have q : sgI b = 0 := by unfold sgI; rw [if_pos (e0.mp h0)]
    exact K_v (by unfold sgJ; rw [q]; rfl) K
  · intro h0 h1
    have q : sgI b = 1 := by unfold sgI; rw [if_neg (mt e0.mpr h0), if_pos (e1.mp h1)]
    exact K_v (by unfold sgJ; rw [q]; rfl) K
  · intro h0 h1 h2
    have q : sgI b = 2 := by unfold sgI; rw [if_neg (mt e0.mpr h0), if_neg (mt e1.mpr h1), if_pos (e2.mp h2)]
    exact K_v (by unfold sgJ; rw [q]; rfl) K
  · intro h0 h1 h2 h3
    have q : sgI b = 3 := by unfold sgI; rw [if_neg (mt e0.mpr h0), if_neg (mt e1.mpr h1), if_neg (mt e2.mpr h2), if_pos (e3.mp h3)]
    exact K_v (by unfold sgJ; rw [q]; rfl) K
  · intro h0 h1 h2 h3 h4
    have q : sgI b = 4 := by unfold sgI; rw [if_neg (mt e0.mpr h0), if_neg (mt e1.mpr h1), if_neg (mt e2.mpr h2), if_neg (mt e3.mpr h3), if_pos (e4.mp h4)]
    exact K_v (by unfold sgJ; rw [q]; rfl) K
  · intro h0 h1 h2 h3 h4 h5
    have q : sgI b = 5 := by unfold sgI; rw [if_neg (mt e0.mpr h0), if_neg (mt e1.mpr h1), if_neg (mt e2.mpr h2), if_neg (mt e3.mpr h3), if_neg (mt e4.mpr h4), if_pos (e5.mp h5)]
    exact K_v (by unfold sgJ; rw [q]; rfl) K
  · intro h0 h1 h2 h3 h4 h5 h6
    have q : sgI b = 6 := by unfold sgI; rw [if_neg (mt e0.mpr h0), if_neg (mt e1.mpr h1), if_neg (mt e2.mpr h2), if_neg (mt e3.mpr h3), if_neg (mt e4.mpr h4), if_neg (mt e5.mpr h5), if_pos (e6.mp h6)]
    exact K_v (by unfold sgJ; rw [q]; rfl) K
  · intro h0 h1 h2 h3 h4 h5 h6 h7
    have q : sgI b = 7 := by unfold sgI; rw [if_neg (mt e0.mpr h0), if_neg (mt e1.mpr h1), if_neg (mt e2.mpr h2), if_neg (mt e3.mpr h3), if_neg (mt e4.mpr h4), if_neg (mt e5.mpr h5), if_neg (mt e6.mpr h6), if_pos (e7.mp h7)]
    exact K_v (by unfold sgJ; rw [q]; rfl) K
  · intro h0 h1 h2 h3 h4 h5 h6 h7 h8
    have q : sgI b = 8 := by unfold sgI; rw [if_neg (mt e0.mpr h0), if_neg (mt e1.mpr h1), if_neg (mt e2.mpr h2), if_neg (mt e3.mpr h3), if_neg (mt e4.mpr h4), if_neg (mt e5.mpr h5), if_neg (mt e6.mpr h6), if_neg (mt e7.mpr h7), if_pos (e8.mp h8)]
    exact K_v (by unfold sgJ; rw [q]; rfl) K
  · intro h0 h1 h2 h3 h4 h5 h6 h7 h8
    have q : sgI b = 9 := by unfold sgI; rw [if_neg (mt e0.mpr h0), if_neg (mt e1.mpr h1), if_neg (mt e2.mpr h2), if_neg (mt e3.mpr h3), if_neg (mt e4.mpr h4), if_neg (mt e5.mpr h5), if_neg (mt e6.mpr h6), if_neg (mt e7.mpr h7), if_neg (mt e8.mpr h8)]
    exact K_v (by unfold sgJ; rw [q]; rfl) K

