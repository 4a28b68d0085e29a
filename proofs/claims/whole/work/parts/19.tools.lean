/-! TOOLS OF THE PURE PART -/
theorem am_cut {fs : List am_F} {d : Nat} {Q : Option am_V → am_M → Prop} : ∀ {k : Nat} {f : am_F} {M : am_M}, am_WP (f :: fs) d M Q → am_wk fs d Q k f M
  | 0, _, _, h => h
  | k + 1, f, M, h => by
    unfold am_wk
    rw [am_st_el]
    obtain ⟨n, v, M', h1, h2⟩ := h
    cases n with
    | zero => cases h1
    | succ n =>
      rw [am_run] at h1
      rcases hf : am_fn f M with _ | ⟨⟨b, f', M1⟩ | ⟨e, f', M1⟩ | ⟨w, M1⟩⟩
      · rw [hf] at h1; cases h1
      · rw [hf] at h1
        have h3 : am_WP (f' :: fs) d M1 Q := ⟨n, v, M', h1, h2⟩
        cases b
        · exact h3
        · exact am_cut h3
      · rw [hf] at h1
        cases d with
        | zero => cases h1
        | succ d => exact ⟨n, v, M', h1, h2⟩
      · rw [hf] at h1
        cases fs with
        | nil => cases h1; exact h2
        | cons g gs => exact ⟨n, v, M', h1, h2⟩
/-- a call of mid with as at M comes back with v, at M' -/
def Rt (mid : Nat) (as : List am_V) (d : Nat) (M : am_M) (v : Option am_V) (M' : am_M) : Prop := ∀ (g : am_F) (gs : List am_F) (Q : Option am_V → am_M → Prop), am_WP (am_psh g v :: gs) (d + 1) M' Q → am_WP (am_entry mid as :: g :: gs) d M Q
def bI (p : Prop) [Decidable p] : Int32 := if p then 1 else 0
theorem bI_0 {p : Prop} [Decidable p] : bI p = 0 ↔ ¬ p := by unfold bI; split <;> simp_all
theorem bI_1 {p : Prop} [Decidable p] : ¬ bI p = 0 ↔ p := by unfold bI; split <;> simp_all
theorem bI_t {p : Prop} [Decidable p] (h : p) : bI p = 1 := by unfold bI; rw [if_pos h]
theorem bI_f {p : Prop} [Decidable p] (h : ¬ p) : bI p = 0 := by unfold bI; rw [if_neg h]
theorem bI_z {p : Prop} [Decidable p] : bI p &&& 1 = bI p := by unfold bI; split <;> rfl
theorem lg_lt {x y : Int32} : lg_cmp x.toInt64 y.toInt64 < 0 ↔ x < y := by
  have h1 : ∀ z : Int32, z.toInt64.toInt = z.toInt := fun z => by simp
  unfold lg_cmp
  rw [show (x < y) ↔ x.toInt64.toInt < y.toInt64.toInt by rw [h1, h1]; exact Int32.lt_iff_toInt_lt]
  by_cases h : x.toInt64 > y.toInt64
  · have := Int64.lt_iff_toInt_lt.mp h
    simp only [h, if_true]
    constructor
    · intro z; exact absurd z (by decide)
    · intro z; omega
  · have h' : x.toInt64 ≤ y.toInt64 := Int64.not_lt.mp h
    have := Int64.le_iff_toInt_le.mp h'
    simp only [h, if_false]
    by_cases e : x.toInt64 = y.toInt64
    · simp only [e, if_true]
      constructor
      · intro z; exact absurd z (by decide)
      · intro z; omega
    · simp only [e, if_false]
      constructor
      · intro z
        have : x.toInt64.toInt ≠ y.toInt64.toInt := fun q => e (Int64.toInt_inj.mp q)
        omega
      · intro z; decide
theorem lg_gt {x y : Int32} : 0 < lg_cmp x.toInt64 y.toInt64 ↔ y < x := by
  have h1 : ∀ z : Int32, z.toInt64.toInt = z.toInt := fun z => by simp
  unfold lg_cmp
  rw [show (y < x) ↔ y.toInt64.toInt < x.toInt64.toInt by rw [h1, h1]; exact Int32.lt_iff_toInt_lt]
  by_cases h : x.toInt64 > y.toInt64
  · have := Int64.lt_iff_toInt_lt.mp h
    simp only [h, if_true]
    exact ⟨fun _ => this, fun _ => by decide⟩
  · have h' : x.toInt64 ≤ y.toInt64 := Int64.not_lt.mp h
    have := Int64.le_iff_toInt_le.mp h'
    simp only [h, if_false]
    constructor
    · intro z
      split at z
      · exact absurd z (by decide)
      · exact absurd z (by decide)
    · intro z; omega
/-- isIn over ints -/
theorem m_isIn (x lo hi : Int32) (d : Nat) (M : am_M) : Rt mX8_isIn [.inr (.inl x.toInt64), .inr (.inl lo.toInt64), .inr (.inl hi.toInt64)] d M (some (.inl (bI (lo ≤ x ∧ x ≤ hi)))) M := by
  intro g gs Q K
  refine am_go 20 ?_
  refine am_if (fun h0 => ?_) (fun h0 => ?_)
  · rw [bI_f (fun z => absurd (lg_lt.mp h0) (Int32.not_lt.mpr z.1))] at K
    exact K
  · refine am_if (fun h1 => ?_) (fun h1 => ?_)
    · rw [bI_f (fun z => absurd (lg_gt.mp h1) (Int32.not_lt.mpr z.2))] at K
      exact K
    · rw [bI_t ⟨Int32.not_lt.mp (fun z => h0 (lg_lt.mpr z)), Int32.not_lt.mp (fun z => h1 (lg_gt.mpr z))⟩] at K
      exact K
