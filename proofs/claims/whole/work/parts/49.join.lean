/-! TEXTS WORKED OUT -/
theorem nI_m1E {x : Int32} {a : Nat} (hx : x = nI a) (h : 1 ≤ a) : x + (-1) = nI (a - 1) := by
  obtain ⟨b, rfl⟩ : ∃ b, a = b + 1 := ⟨a - 1, by omega⟩
  rw [hx]; exact pk_m1 b
def jn (s : Nat) (a b : Int32) : Int32 := if s = 0 then bI (¬ a = 0 ∨ ¬ b = 0) else if s = 1 then bI (¬ a = 0 ∧ ¬ b = 0) else if s = 2 then bI (a < b) else if s = 3 then bI (a = b) else if s = 4 then bI (b < a) else if s = 5 then a + b else if s = 6 then a - b else if s = 7 then a * b else if b = 0 then 0 else a / b
def evF (nm : Nat → Int32) : List (Nat × Nat) → Nat → (Nat → Int32) → Int32
  | [], _, f => f 0
  | p :: ps, n, f => if p.1 = 0 then evF nm ps (n + 1) (fu f n (nI p.2)) else if p.1 = 1 then evF nm ps (n + 1) (fu f n (nm p.2)) else if p.2 = 9 then evF nm ps n (fu f (n - 1) (bI (f (n - 1) = 0))) else evF nm ps (n - 1) (fu f (n - 2) (jn p.2 (f (n - 2)) (f (n - 1))))
def tv (t : Tx) (nm : Nat → Int32) : Int32 := evF nm t.2.2 0 (fun _ => 0)
theorem dv1 (x : Int32) : x / (-1) = -x := by
  apply Int32.toInt_inj.mp
  rw [Int32.toInt_div, show (-1 : Int32).toInt = -1 from rfl, Int.tdiv_neg, Int.tdiv_one, Int32.toInt_neg]
set_option maxRecDepth 100000 in
set_option maxHeartbeats 4000000 in
theorem w_X6_joined_0 {I : Nat → Nat → Nat → Int32} {X : am_Z} {g : am_F} {gs : List am_F} {d : Nat} {Q : Option am_V → am_M → Prop} {a b : Int32} (k0 : (a = 0) → (b = 0) → am_WP (am_psh g (some (.inl (0))) :: gs) (d + 2) (mk I X) Q) (k1 : (a = 0) → (¬ b = 0) → am_WP (am_psh g (some (.inl (1))) :: gs) (d + 2) (mk I X) Q) (k2 : (¬ a = 0) → am_WP (am_psh g (some (.inl (1))) :: gs) (d + 2) (mk I X) Q) : am_WP (am_entry mX6_joined [.inl (0), .inl (a), .inl (b)] :: g :: gs) (d + 1) (mk I X) Q := by
  refine am_go 400 ?_
  refine am_if (fun h1 => ?_) (fun h1 => ?_)
  · refine am_if (fun h2 => ?_) (fun h2 => ?_)
    · refine am_go 400 ?_
      refine am_go 400 ?_
      exact k0 h1 h2
    · refine am_go 400 ?_
      refine am_go 400 ?_
      exact k1 h1 h2
  · refine am_go 400 ?_
    refine am_go 400 ?_
    exact k2 h1
theorem c_X6_joined_0 {I X d} {a b : Int32} : Rt mX6_joined [.inl 0, .inl a, .inl b] (d + 1) (mk I X) (some (.inl (jn 0 a b))) (mk I X) := fun g gs Q K => by
  refine w_X6_joined_0  ?_ ?_ ?_
  · intro h0 h1
    exact K_v (by simp [jn, bI, *]) K
  · intro h0 h1
    exact K_v (by simp [jn, bI, *]) K
  · intro h0
    exact K_v (by simp [jn, bI, *]) K
set_option maxRecDepth 100000 in
set_option maxHeartbeats 4000000 in
theorem w_X6_joined_1 {I : Nat → Nat → Nat → Int32} {X : am_Z} {g : am_F} {gs : List am_F} {d : Nat} {Q : Option am_V → am_M → Prop} {a b : Int32} (k0 : (a = 0) → am_WP (am_psh g (some (.inl (0))) :: gs) (d + 2) (mk I X) Q) (k1 : (¬ a = 0) → (b = 0) → am_WP (am_psh g (some (.inl (0))) :: gs) (d + 2) (mk I X) Q) (k2 : (¬ a = 0) → (¬ b = 0) → am_WP (am_psh g (some (.inl (1))) :: gs) (d + 2) (mk I X) Q) : am_WP (am_entry mX6_joined [.inl (1), .inl (a), .inl (b)] :: g :: gs) (d + 1) (mk I X) Q := by
  refine am_go 400 ?_
  refine am_if (fun h1 => ?_) (fun h1 => ?_)
  · refine am_go 400 ?_
    refine am_go 400 ?_
    exact k0 h1
  · refine am_if (fun h2 => ?_) (fun h2 => ?_)
    · refine am_go 400 ?_
      refine am_go 400 ?_
      exact k1 h1 h2
    · refine am_go 400 ?_
      refine am_go 400 ?_
      exact k2 h1 h2
theorem c_X6_joined_1 {I X d} {a b : Int32} : Rt mX6_joined [.inl 1, .inl a, .inl b] (d + 1) (mk I X) (some (.inl (jn 1 a b))) (mk I X) := fun g gs Q K => by
  refine w_X6_joined_1  ?_ ?_ ?_
  · intro h0
    exact K_v (by simp [jn, bI, *]) K
  · intro h0 h1
    exact K_v (by simp [jn, bI, *]) K
  · intro h0 h1
    exact K_v (by simp [jn, bI, *]) K
set_option maxRecDepth 100000 in
set_option maxHeartbeats 4000000 in
theorem w_X6_joined_2 {I : Nat → Nat → Nat → Int32} {X : am_Z} {g : am_F} {gs : List am_F} {d : Nat} {Q : Option am_V → am_M → Prop} {a b : Int32} (k0 : (b ≤ a) → am_WP (am_psh g (some (.inl (0))) :: gs) (d + 2) (mk I X) Q) (k1 : (¬ b ≤ a) → am_WP (am_psh g (some (.inl (1))) :: gs) (d + 2) (mk I X) Q) : am_WP (am_entry mX6_joined [.inl (2), .inl (a), .inl (b)] :: g :: gs) (d + 1) (mk I X) Q := by
  refine am_go 400 ?_
  refine am_if (fun h1 => ?_) (fun h1 => ?_)
  · refine am_go 400 ?_
    refine am_go 400 ?_
    exact k0 h1
  · refine am_go 400 ?_
    refine am_go 400 ?_
    exact k1 h1
theorem c_X6_joined_2 {I X d} {a b : Int32} : Rt mX6_joined [.inl 2, .inl a, .inl b] (d + 1) (mk I X) (some (.inl (jn 2 a b))) (mk I X) := fun g gs Q K => by
  refine w_X6_joined_2  ?_ ?_
  · intro h0
    exact K_v (by simp [jn, bI, *]) K
  · intro h0
    exact K_v (by simp [jn, bI, *]) K
set_option maxRecDepth 100000 in
set_option maxHeartbeats 4000000 in
theorem w_X6_joined_3 {I : Nat → Nat → Nat → Int32} {X : am_Z} {g : am_F} {gs : List am_F} {d : Nat} {Q : Option am_V → am_M → Prop} {a b : Int32} (k0 : (a = b) → am_WP (am_psh g (some (.inl (1))) :: gs) (d + 2) (mk I X) Q) (k1 : (¬ a = b) → am_WP (am_psh g (some (.inl (0))) :: gs) (d + 2) (mk I X) Q) : am_WP (am_entry mX6_joined [.inl (3), .inl (a), .inl (b)] :: g :: gs) (d + 1) (mk I X) Q := by
  refine am_go 400 ?_
  refine am_if (fun h1 => ?_) (fun h1 => ?_)
  · refine am_go 400 ?_
    refine am_go 400 ?_
    exact k0 h1
  · refine am_go 400 ?_
    refine am_go 400 ?_
    exact k1 h1
theorem c_X6_joined_3 {I X d} {a b : Int32} : Rt mX6_joined [.inl 3, .inl a, .inl b] (d + 1) (mk I X) (some (.inl (jn 3 a b))) (mk I X) := fun g gs Q K => by
  refine w_X6_joined_3  ?_ ?_
  · intro h0
    exact K_v (by simp [jn, bI, *]) K
  · intro h0
    exact K_v (by simp [jn, bI, *]) K
set_option maxRecDepth 100000 in
set_option maxHeartbeats 4000000 in
theorem w_X6_joined_4 {I : Nat → Nat → Nat → Int32} {X : am_Z} {g : am_F} {gs : List am_F} {d : Nat} {Q : Option am_V → am_M → Prop} {a b : Int32} (k0 : (a ≤ b) → am_WP (am_psh g (some (.inl (0))) :: gs) (d + 2) (mk I X) Q) (k1 : (¬ a ≤ b) → am_WP (am_psh g (some (.inl (1))) :: gs) (d + 2) (mk I X) Q) : am_WP (am_entry mX6_joined [.inl (4), .inl (a), .inl (b)] :: g :: gs) (d + 1) (mk I X) Q := by
  refine am_go 400 ?_
  refine am_if (fun h1 => ?_) (fun h1 => ?_)
  · refine am_go 400 ?_
    refine am_go 400 ?_
    exact k0 h1
  · refine am_go 400 ?_
    refine am_go 400 ?_
    exact k1 h1
theorem c_X6_joined_4 {I X d} {a b : Int32} : Rt mX6_joined [.inl 4, .inl a, .inl b] (d + 1) (mk I X) (some (.inl (jn 4 a b))) (mk I X) := fun g gs Q K => by
  refine w_X6_joined_4  ?_ ?_
  · intro h0
    exact K_v (by simp [jn, bI, *]) K
  · intro h0
    exact K_v (by simp [jn, bI, *]) K
set_option maxRecDepth 100000 in
set_option maxHeartbeats 4000000 in
theorem w_X6_joined_5 {I : Nat → Nat → Nat → Int32} {X : am_Z} {g : am_F} {gs : List am_F} {d : Nat} {Q : Option am_V → am_M → Prop} {a b : Int32} (k0 : am_WP (am_psh g (some (.inl ((a + b)))) :: gs) (d + 2) (mk I X) Q) : am_WP (am_entry mX6_joined [.inl (5), .inl (a), .inl (b)] :: g :: gs) (d + 1) (mk I X) Q := by
  refine am_go 400 ?_
  exact k0
theorem c_X6_joined_5 {I X d} {a b : Int32} : Rt mX6_joined [.inl 5, .inl a, .inl b] (d + 1) (mk I X) (some (.inl (jn 5 a b))) (mk I X) := fun g gs Q K => by
  refine w_X6_joined_5  ?_
  · exact K_v rfl K
set_option maxRecDepth 100000 in
set_option maxHeartbeats 4000000 in
theorem w_X6_joined_6 {I : Nat → Nat → Nat → Int32} {X : am_Z} {g : am_F} {gs : List am_F} {d : Nat} {Q : Option am_V → am_M → Prop} {a b : Int32} (k0 : am_WP (am_psh g (some (.inl ((a - b)))) :: gs) (d + 2) (mk I X) Q) : am_WP (am_entry mX6_joined [.inl (6), .inl (a), .inl (b)] :: g :: gs) (d + 1) (mk I X) Q := by
  refine am_go 400 ?_
  exact k0
theorem c_X6_joined_6 {I X d} {a b : Int32} : Rt mX6_joined [.inl 6, .inl a, .inl b] (d + 1) (mk I X) (some (.inl (jn 6 a b))) (mk I X) := fun g gs Q K => by
  refine w_X6_joined_6  ?_
  · exact K_v rfl K
set_option maxRecDepth 100000 in
set_option maxHeartbeats 4000000 in
theorem w_X6_joined_7 {I : Nat → Nat → Nat → Int32} {X : am_Z} {g : am_F} {gs : List am_F} {d : Nat} {Q : Option am_V → am_M → Prop} {a b : Int32} (k0 : am_WP (am_psh g (some (.inl ((a * b)))) :: gs) (d + 2) (mk I X) Q) : am_WP (am_entry mX6_joined [.inl (7), .inl (a), .inl (b)] :: g :: gs) (d + 1) (mk I X) Q := by
  refine am_go 400 ?_
  exact k0
theorem c_X6_joined_7 {I X d} {a b : Int32} : Rt mX6_joined [.inl 7, .inl a, .inl b] (d + 1) (mk I X) (some (.inl (jn 7 a b))) (mk I X) := fun g gs Q K => by
  refine w_X6_joined_7  ?_
  · exact K_v rfl K
set_option maxRecDepth 100000 in
set_option maxHeartbeats 4000000 in
theorem w_X6_joined_8 {I : Nat → Nat → Nat → Int32} {X : am_Z} {g : am_F} {gs : List am_F} {d : Nat} {Q : Option am_V → am_M → Prop} {a b : Int32} (b0 : (¬ b = 0) → ¬ b = 0) (k0 : (b = 0) → am_WP (am_psh g (some (.inl (0))) :: gs) (d + 2) (mk I X) Q) (k1 : (¬ b = 0) → am_WP (am_psh g (some (.inl ((a / b)))) :: gs) (d + 2) (mk I X) Q) : am_WP (am_entry mX6_joined [.inl (8), .inl (a), .inl (b)] :: g :: gs) (d + 1) (mk I X) Q := by
  refine am_go 400 ?_
  refine am_if (fun h1 => ?_) (fun h1 => ?_)
  · exact k0 h1
  · refine am_f (b0 h1) ?_
    exact k1 h1
theorem c_X6_joined_8 {I X d} {a b : Int32} : Rt mX6_joined [.inl 8, .inl a, .inl b] (d + 1) (mk I X) (some (.inl (jn 8 a b))) (mk I X) := fun g gs Q K => by
  refine w_X6_joined_8 ?_ ?_ ?_
  · intro h; exact h
  · intro h0
    exact K_v (by simp [jn, *]) K
  · intro h0
    exact K_v (by simp [jn, *]) K
set_option maxRecDepth 100000 in
set_option maxHeartbeats 4000000 in
theorem w_X8_joined_0 {I : Nat → Nat → Nat → Int32} {X : am_Z} {g : am_F} {gs : List am_F} {d : Nat} {Q : Option am_V → am_M → Prop} {a b : Int32} (k0 : (a = 0) → (b = 0) → am_WP (am_psh g (some (.inl (0))) :: gs) (d + 1) (mk I X) Q) (k1 : (a = 0) → (¬ b = 0) → am_WP (am_psh g (some (.inl (1))) :: gs) (d + 1) (mk I X) Q) (k2 : (¬ a = 0) → am_WP (am_psh g (some (.inl (1))) :: gs) (d + 1) (mk I X) Q) : am_WP (am_entry mX8_joined [.inl (124), .inl (a), .inl (b)] :: g :: gs) (d) (mk I X) Q := by
  refine am_go 400 ?_
  refine am_if (fun h1 => ?_) (fun h1 => ?_)
  · refine am_if (fun h2 => ?_) (fun h2 => ?_)
    · exact k0 h1 h2
    · exact k1 h1 h2
  · exact k2 h1
theorem c_X8_joined_0 {I X d} {a b : Int32} : Rt mX8_joined [.inl 124, .inl a, .inl b] d (mk I X) (some (.inl (jn 0 a b))) (mk I X) := fun g gs Q K => by
  refine w_X8_joined_0  ?_ ?_ ?_
  · intro h0 h1
    exact K_v (by simp [jn, bI, dv1, *]) K
  · intro h0 h1
    exact K_v (by simp [jn, bI, dv1, *]) K
  · intro h0
    exact K_v (by simp [jn, bI, dv1, *]) K
set_option maxRecDepth 100000 in
set_option maxHeartbeats 4000000 in
theorem w_X8_joined_1 {I : Nat → Nat → Nat → Int32} {X : am_Z} {g : am_F} {gs : List am_F} {d : Nat} {Q : Option am_V → am_M → Prop} {a b : Int32} (k0 : (a = 0) → am_WP (am_psh g (some (.inl (0))) :: gs) (d + 1) (mk I X) Q) (k1 : (¬ a = 0) → (b = 0) → am_WP (am_psh g (some (.inl (0))) :: gs) (d + 1) (mk I X) Q) (k2 : (¬ a = 0) → (¬ b = 0) → am_WP (am_psh g (some (.inl (1))) :: gs) (d + 1) (mk I X) Q) : am_WP (am_entry mX8_joined [.inl (38), .inl (a), .inl (b)] :: g :: gs) (d) (mk I X) Q := by
  refine am_go 400 ?_
  refine am_if (fun h1 => ?_) (fun h1 => ?_)
  · exact k0 h1
  · refine am_if (fun h2 => ?_) (fun h2 => ?_)
    · exact k1 h1 h2
    · exact k2 h1 h2
theorem c_X8_joined_1 {I X d} {a b : Int32} : Rt mX8_joined [.inl 38, .inl a, .inl b] d (mk I X) (some (.inl (jn 1 a b))) (mk I X) := fun g gs Q K => by
  refine w_X8_joined_1  ?_ ?_ ?_
  · intro h0
    exact K_v (by simp [jn, bI, dv1, *]) K
  · intro h0 h1
    exact K_v (by simp [jn, bI, dv1, *]) K
  · intro h0 h1
    exact K_v (by simp [jn, bI, dv1, *]) K
set_option maxRecDepth 100000 in
set_option maxHeartbeats 4000000 in
theorem w_X8_joined_2 {I : Nat → Nat → Nat → Int32} {X : am_Z} {g : am_F} {gs : List am_F} {d : Nat} {Q : Option am_V → am_M → Prop} {a b : Int32} (k0 : (b ≤ a) → am_WP (am_psh g (some (.inl (0))) :: gs) (d + 1) (mk I X) Q) (k1 : (¬ b ≤ a) → am_WP (am_psh g (some (.inl (1))) :: gs) (d + 1) (mk I X) Q) : am_WP (am_entry mX8_joined [.inl (60), .inl (a), .inl (b)] :: g :: gs) (d) (mk I X) Q := by
  refine am_go 400 ?_
  refine am_if (fun h1 => ?_) (fun h1 => ?_)
  · exact k0 h1
  · exact k1 h1
theorem c_X8_joined_2 {I X d} {a b : Int32} : Rt mX8_joined [.inl 60, .inl a, .inl b] d (mk I X) (some (.inl (jn 2 a b))) (mk I X) := fun g gs Q K => by
  refine w_X8_joined_2  ?_ ?_
  · intro h0
    exact K_v (by simp [jn, bI, dv1, *]) K
  · intro h0
    exact K_v (by simp [jn, bI, dv1, *]) K
set_option maxRecDepth 100000 in
set_option maxHeartbeats 4000000 in
theorem w_X8_joined_3 {I : Nat → Nat → Nat → Int32} {X : am_Z} {g : am_F} {gs : List am_F} {d : Nat} {Q : Option am_V → am_M → Prop} {a b : Int32} (k0 : (a = b) → am_WP (am_psh g (some (.inl (1))) :: gs) (d + 1) (mk I X) Q) (k1 : (¬ a = b) → am_WP (am_psh g (some (.inl (0))) :: gs) (d + 1) (mk I X) Q) : am_WP (am_entry mX8_joined [.inl (61), .inl (a), .inl (b)] :: g :: gs) (d) (mk I X) Q := by
  refine am_go 400 ?_
  refine am_if (fun h1 => ?_) (fun h1 => ?_)
  · exact k0 h1
  · exact k1 h1
theorem c_X8_joined_3 {I X d} {a b : Int32} : Rt mX8_joined [.inl 61, .inl a, .inl b] d (mk I X) (some (.inl (jn 3 a b))) (mk I X) := fun g gs Q K => by
  refine w_X8_joined_3  ?_ ?_
  · intro h0
    exact K_v (by simp [jn, bI, dv1, *]) K
  · intro h0
    exact K_v (by simp [jn, bI, dv1, *]) K
set_option maxRecDepth 100000 in
set_option maxHeartbeats 4000000 in
theorem w_X8_joined_4 {I : Nat → Nat → Nat → Int32} {X : am_Z} {g : am_F} {gs : List am_F} {d : Nat} {Q : Option am_V → am_M → Prop} {a b : Int32} (k0 : (a ≤ b) → am_WP (am_psh g (some (.inl (0))) :: gs) (d + 1) (mk I X) Q) (k1 : (¬ a ≤ b) → am_WP (am_psh g (some (.inl (1))) :: gs) (d + 1) (mk I X) Q) : am_WP (am_entry mX8_joined [.inl (62), .inl (a), .inl (b)] :: g :: gs) (d) (mk I X) Q := by
  refine am_go 400 ?_
  refine am_if (fun h1 => ?_) (fun h1 => ?_)
  · exact k0 h1
  · exact k1 h1
theorem c_X8_joined_4 {I X d} {a b : Int32} : Rt mX8_joined [.inl 62, .inl a, .inl b] d (mk I X) (some (.inl (jn 4 a b))) (mk I X) := fun g gs Q K => by
  refine w_X8_joined_4  ?_ ?_
  · intro h0
    exact K_v (by simp [jn, bI, dv1, *]) K
  · intro h0
    exact K_v (by simp [jn, bI, dv1, *]) K
set_option maxRecDepth 100000 in
set_option maxHeartbeats 4000000 in
theorem w_X8_joined_5 {I : Nat → Nat → Nat → Int32} {X : am_Z} {g : am_F} {gs : List am_F} {d : Nat} {Q : Option am_V → am_M → Prop} {a b : Int32} (k0 : am_WP (am_psh g (some (.inl ((a + b)))) :: gs) (d + 1) (mk I X) Q) : am_WP (am_entry mX8_joined [.inl (43), .inl (a), .inl (b)] :: g :: gs) (d) (mk I X) Q := by
  refine am_go 400 ?_
  exact k0
theorem c_X8_joined_5 {I X d} {a b : Int32} : Rt mX8_joined [.inl 43, .inl a, .inl b] d (mk I X) (some (.inl (jn 5 a b))) (mk I X) := fun g gs Q K => by
  refine w_X8_joined_5  ?_
  · exact K_v rfl K
set_option maxRecDepth 100000 in
set_option maxHeartbeats 4000000 in
theorem w_X8_joined_6 {I : Nat → Nat → Nat → Int32} {X : am_Z} {g : am_F} {gs : List am_F} {d : Nat} {Q : Option am_V → am_M → Prop} {a b : Int32} (k0 : am_WP (am_psh g (some (.inl ((a - b)))) :: gs) (d + 1) (mk I X) Q) : am_WP (am_entry mX8_joined [.inl (45), .inl (a), .inl (b)] :: g :: gs) (d) (mk I X) Q := by
  refine am_go 400 ?_
  exact k0
theorem c_X8_joined_6 {I X d} {a b : Int32} : Rt mX8_joined [.inl 45, .inl a, .inl b] d (mk I X) (some (.inl (jn 6 a b))) (mk I X) := fun g gs Q K => by
  refine w_X8_joined_6  ?_
  · exact K_v rfl K
set_option maxRecDepth 100000 in
set_option maxHeartbeats 4000000 in
theorem w_X8_joined_7 {I : Nat → Nat → Nat → Int32} {X : am_Z} {g : am_F} {gs : List am_F} {d : Nat} {Q : Option am_V → am_M → Prop} {a b : Int32} (k0 : am_WP (am_psh g (some (.inl ((a * b)))) :: gs) (d + 1) (mk I X) Q) : am_WP (am_entry mX8_joined [.inl (42), .inl (a), .inl (b)] :: g :: gs) (d) (mk I X) Q := by
  refine am_go 400 ?_
  exact k0
theorem c_X8_joined_7 {I X d} {a b : Int32} : Rt mX8_joined [.inl 42, .inl a, .inl b] d (mk I X) (some (.inl (jn 7 a b))) (mk I X) := fun g gs Q K => by
  refine w_X8_joined_7  ?_
  · exact K_v rfl K
set_option maxRecDepth 100000 in
set_option maxHeartbeats 4000000 in
theorem w_X8_joined_8 {I : Nat → Nat → Nat → Int32} {X : am_Z} {g : am_F} {gs : List am_F} {d : Nat} {Q : Option am_V → am_M → Prop} {a b : Int32} (b0 : (¬ b = 0) → (¬ b = (-1)) → ¬ b = 0) (k0 : (b = 0) → am_WP (am_psh g (some (.inl (0))) :: gs) (d + 1) (mk I X) Q) (k1 : (¬ b = 0) → (b = (-1)) → am_WP (am_psh g (some (.inl ((-a)))) :: gs) (d + 1) (mk I X) Q) (k2 : (¬ b = 0) → (¬ b = (-1)) → am_WP (am_psh g (some (.inl ((a / b)))) :: gs) (d + 1) (mk I X) Q) : am_WP (am_entry mX8_joined [.inl (47), .inl (a), .inl (b)] :: g :: gs) (d) (mk I X) Q := by
  refine am_go 400 ?_
  refine am_if (fun h1 => ?_) (fun h1 => ?_)
  · exact k0 h1
  · refine am_if (fun h2 => ?_) (fun h2 => ?_)
    · exact k1 h1 h2
    · refine am_f (b0 h1 h2) ?_
      exact k2 h1 h2
theorem c_X8_joined_8 {I X d} {a b : Int32} : Rt mX8_joined [.inl 47, .inl a, .inl b] d (mk I X) (some (.inl (jn 8 a b))) (mk I X) := fun g gs Q K => by
  refine w_X8_joined_8 ?_ ?_ ?_ ?_
  · intro h0 h1; assumption
  · intro h0
    exact K_v (by simp [jn, bI, dv1, *]) K
  · intro h0 h1
    exact K_v (by simp [jn, bI, dv1, *]) K
  · intro h0 h1
    exact K_v (by simp [jn, bI, dv1, *]) K
theorem c_X6_joined {I X d} {s : Nat} {x a b : Int32} (hx : x = nI s) (hs : s < 9) : Rt mX6_joined [.inl x, .inl a, .inl b] (d + 1) (mk I X) (some (.inl (jn s a b))) (mk I X) := by
  subst hx
  match s, hs with
  | 0, _ => exact c_X6_joined_0
  | 1, _ => exact c_X6_joined_1
  | 2, _ => exact c_X6_joined_2
  | 3, _ => exact c_X6_joined_3
  | 4, _ => exact c_X6_joined_4
  | 5, _ => exact c_X6_joined_5
  | 6, _ => exact c_X6_joined_6
  | 7, _ => exact c_X6_joined_7
  | 8, _ => exact c_X6_joined_8
theorem c_X8_joined {I X d} {s : Nat} {x a b : Int32} (hx : x = nI ([124, 38, 60, 61, 62, 43, 45, 42, 47, 33].getD s 0)) (hs : s < 9) : Rt mX8_joined [.inl x, .inl a, .inl b] d (mk I X) (some (.inl (jn s a b))) (mk I X) := by
  subst hx
  match s, hs with
  | 0, _ => exact c_X8_joined_0
  | 1, _ => exact c_X8_joined_1
  | 2, _ => exact c_X8_joined_2
  | 3, _ => exact c_X8_joined_3
  | 4, _ => exact c_X8_joined_4
  | 5, _ => exact c_X8_joined_5
  | 6, _ => exact c_X8_joined_6
  | 7, _ => exact c_X8_joined_7
  | 8, _ => exact c_X8_joined_8
