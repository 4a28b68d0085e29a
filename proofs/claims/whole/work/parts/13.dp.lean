theorem am_i1_s {α : Type} {st : List am_V} {k : Int32 → List am_V → Option α} {z : α} (h : am_i1 none st k = some z) : ∃ x t, st = .inl x :: t ∧ k x t = some z := by
  unfold am_i1 at h; split at h
  · exact ⟨_, _, rfl, h⟩
  · cases h
theorem am_i2_s {α : Type} {st : List am_V} {k : Int32 → Int32 → List am_V → Option α} {z : α} (h : am_i2 none st k = some z) : ∃ x y t, st = .inl y :: .inl x :: t ∧ k x y t = some z := by
  unfold am_i2 at h; split at h
  · exact ⟨_, _, _, rfl, h⟩
  · cases h
theorem am_l2_s {α : Type} {st : List am_V} {k : Int64 → Int64 → List am_V → Option α} {z : α} (h : am_l2 none st k = some z) : ∃ x y t, st = .inr (.inl y) :: .inr (.inl x) :: t ∧ k x y t = some z := by
  unfold am_l2 at h; split at h
  · exact ⟨_, _, _, rfl, h⟩
  · cases h
theorem am_q1_s {α : Type} {st : List am_V} {k : Option (Nat × Nat) → List am_V → Option α} {z : α} (h : am_q1 none st k = some z) : ∃ r t, st = .inr (.inr r) :: t ∧ k r t = some z := by
  unfold am_q1 at h; split at h
  · exact ⟨_, _, rfl, h⟩
  · cases h
theorem am_r1_s {α : Type} {st : List am_V} {k : Nat → Nat → List am_V → Option α} {z : α} (h : am_r1 none st k = some z) : ∃ g q t, st = .inr (.inr (some (g, q))) :: t ∧ k g q t = some z := by
  unfold am_r1 at h; split at h
  · exact ⟨_, _, _, rfl, h⟩
  · cases h
theorem am_iv_s {α : Type} {v : Option am_V} {k : Int32 → Option α} {z : α} (h : am_iv none v k = some z) : ∃ x, v = some (.inl x) ∧ k x = some z := by
  unfold am_iv at h; split at h
  · exact ⟨_, rfl, h⟩
  · cases h
theorem am_lv_s {α : Type} {v : Option am_V} {k : Int64 → Option α} {z : α} (h : am_lv none v k = some z) : ∃ x, v = some (.inr (.inl x)) ∧ k x = some z := by
  unfold am_lv at h; split at h
  · exact ⟨_, rfl, h⟩
  · cases h
theorem am_qv_s {α : Type} {v : Option am_V} {k : Option (Nat × Nat) → Option α} {z : α} (h : am_qv none v k = some z) : ∃ x, v = some (.inr (.inr x)) ∧ k x = some z := by
  unfold am_qv at h; split at h
  · exact ⟨_, rfl, h⟩
  · cases h
theorem am_op_s {α : Type} {v : Option (List am_V × List am_V)} {k : List am_V → List am_V → Option α} {z : α} (h : am_op none v k = some z) : ∃ a t, v = some (a, t) ∧ k a t = some z := by
  unfold am_op at h; split at h
  · exact ⟨_, _, rfl, h⟩
  · cases h
theorem am_nil_s {α : Type} {st : List am_V} {k : Option α} {z : α} (h : am_nil none st k = some z) : st = [] ∧ k = some z := by
  unfold am_nil at h; split at h
  · exact ⟨rfl, h⟩
  · cases h
theorem am_cnd_s {α : Type} {b : Bool} {k : Option α} {z : α} (h : cond b k none = some z) : b = true ∧ k = some z := by
  cases b
  · cases h
  · exact ⟨rfl, h⟩
theorem am_cnf_s {α : Type} {b : Bool} {k : Option α} {z : α} (h : cond b none k = some z) : b = false ∧ k = some z := by
  cases b
  · exact ⟨rfl, h⟩
  · cases h
theorem am_if_s {α : Type} {c : Prop} [Decidable c] {k : Option α} {z : α} (h : (if c then none else k) = some z) : ¬ c ∧ k = some z := by
  split at h
  · cases h
  · exact ⟨‹_›, h⟩
theorem am_ift_s {α : Type} {c : Prop} [Decidable c] {k : Option α} {z : α} (h : (if c then k else none) = some z) : c ∧ k = some z := by
  split at h
  · exact ⟨‹_›, h⟩
  · cases h
theorem am_nl_s {α : Type} {r : Option (Nat × Nat)} {a b : Option α} {z : α} (h : am_nl none r a b = some z) : (r = none ∧ a = some z) ∨ (∃ g q, r = some (g, q) ∧ g ≤ 95 ∧ b = some z) := by
  unfold am_nl at h; split at h
  · exact Or.inl ⟨rfl, h⟩
  · obtain ⟨h1, h2⟩ := am_cnd_s h
    exact Or.inr ⟨_, _, rfl, by simpa using h1, h2⟩
theorem am_al_s {α : Type} {r : Option (Nat × Nat)} {b : Option α} {z : α} (h : am_al none r b = some z) : (r = none ∧ b = some z) ∨ (∃ g q, r = some (g, q) ∧ (g ≤ 95 ∨ g = 100) ∧ b = some z) := by
  unfold am_al at h; split at h
  · exact Or.inl ⟨rfl, h⟩
  · obtain ⟨h1, h2⟩ := am_cnd_s h
    simp only [Bool.or_eq_true, Nat.ble_eq, Nat.beq_eq] at h1
    exact Or.inr ⟨_, _, rfl, h1, h2⟩
theorem am_cl1_s {α : Type} {call : am_F → am_F → am_M → Option α} {mid nx : Nat} {ls : List (Option am_V)} {st : List am_V} {M : am_M} {a : Nat} {z : α} (h : am_cl1 none call mid nx ls st M a = some z) : ∃ as t, am_pop (am_na a) st [] = some (as, t) ∧ am_dep t ≤ 8 ∧ am_dep as ≤ am_mx a ∧ (am_hl a = true ∨ am_dep as = am_na a) ∧ (am_ss a = false → ∃ q rs, as = .inr (.inr (some (am_ci a, q))) :: rs) ∧ call (am_entry a as) (mid, nx, ls, t) M = some z := by
  unfold am_cl1 at h
  obtain ⟨as, t, h1, h⟩ := am_op_s h
  obtain ⟨h2, h⟩ := am_cnd_s h
  simp only [Bool.and_eq_true, Bool.or_eq_true, Nat.ble_eq, Nat.beq_eq] at h2
  refine ⟨as, t, h1, h2.1.1, h2.1.2, h2.2, ?_⟩
  cases hs : am_ss a with
  | true =>
    rw [hs] at h
    exact ⟨fun z => (by cases z), h⟩
  | false =>
    rw [hs] at h
    obtain ⟨g, q, rs, h3, h⟩ := am_r1_s (show am_r1 none as _ = some z from h)
    obtain ⟨h4, h9⟩ := am_cnd_s h
    have h4 := Nat.eq_of_beq_eq_true h4
    subst h4
    exact ⟨fun _ => ⟨q, rs, h3⟩, h9⟩
theorem am_inv_s {α : Type} {cont : am_F → am_M → Option α} {call : am_F → am_F → am_M → Option α} {mid nx : Nat} {ls : List (Option am_V)} {st : List am_V} {M : am_M} {a b : Nat} {z : α} (h : am_inv none cont call mid nx ls st M a b = some z) :
    ((b = 0 ∨ b = 5) ∧ am_cl1 none call mid nx ls st M a = some z) ∨
    (b = 1 ∧ ∃ x y t, st = .inl y :: .inl x :: t ∧ am_dep t ≤ 8 ∧ cont (mid, nx, ls, .inl (if x < y then y else x) :: t) M = some z) ∨
    (b = 2 ∧ ∃ x y t, st = .inl y :: .inl x :: t ∧ am_dep t ≤ 8 ∧ cont (mid, nx, ls, .inl (if y < x then y else x) :: t) M = some z) ∨
    (b = 3 ∧ ∃ x t, st = .inl x :: t ∧ am_dep t ≤ 8 ∧ cont (mid, nx, ls, .inl (if 0 ≤ x then x else 0 - x) :: t) M = some z) ∨
    (b = 4 ∧ ∃ nn dp gd od sp gs os t, st = .inl nn :: .inl dp :: .inr (.inr (some (gd, od))) :: .inl sp :: .inr (.inr (some (gs, os))) :: t ∧ am_dep t ≤ 8 ∧ 16 ≤ gd ∧ gd ≤ 79 ∧ 16 ≤ gs ∧ gs ≤ 79 ∧ (¬ sp < 0 ∧ ¬ dp < 0 ∧ ¬ nn < 0 ∧ sp.toNatClampNeg + nn.toNatClampNeg ≤ M.2.2.2.1 gs os ∧ dp.toNatClampNeg + nn.toNatClampNeg ≤ M.2.2.2.1 gd od) ∧ cont (mid, nx, ls, t) (am_sA M gd od (va_cpy (M.1 gs os) (M.1 gd od) sp.toNatClampNeg dp.toNatClampNeg nn.toNatClampNeg)) = some z) ∨
    (b = 9 ∧ ∃ g q t, st = .inr (.inr (some (g, q))) :: t ∧ am_dep t ≤ 8 ∧ g ≤ 95 ∧ cont (mid, nx, ls, t) M = some z) := by
  unfold am_inv at h
  split at h
  · exact Or.inl ⟨Or.inl rfl, h⟩
  · exact Or.inl ⟨Or.inr rfl, h⟩
  · obtain ⟨x, y, t, h1, h⟩ := am_i2_s h
    obtain ⟨h2, h⟩ := am_cnd_s h
    exact Or.inr (Or.inl ⟨rfl, x, y, t, h1, by simpa using h2, h⟩)
  · obtain ⟨x, y, t, h1, h⟩ := am_i2_s h
    obtain ⟨h2, h⟩ := am_cnd_s h
    exact Or.inr (Or.inr (Or.inl ⟨rfl, x, y, t, h1, by simpa using h2, h⟩))
  · obtain ⟨x, t, h1, h⟩ := am_i1_s h
    obtain ⟨h2, h⟩ := am_cnd_s h
    exact Or.inr (Or.inr (Or.inr (Or.inl ⟨rfl, x, t, h1, by simpa using h2, h⟩)))
  · obtain ⟨dp, nn, t, rfl, h⟩ := am_i2_s h
    obtain ⟨gd, od, t, rfl, h⟩ := am_r1_s h
    obtain ⟨sp, t, rfl, h⟩ := am_i1_s h
    obtain ⟨gs, os, t, rfl, h⟩ := am_r1_s h
    obtain ⟨h2, h⟩ := am_cnd_s h
    obtain ⟨h3, h⟩ := am_ift_s h
    simp only [Bool.and_eq_true, Nat.ble_eq] at h2
    exact Or.inr (Or.inr (Or.inr (Or.inr (Or.inl ⟨rfl, nn, dp, gd, od, sp, gs, os, t, rfl, h2.1.1.1.1, h2.1.1.1.2, h2.1.1.2, h2.1.2, h2.2, h3, h⟩))))
  · obtain ⟨g, q, t, h1, h⟩ := am_r1_s h
    obtain ⟨h2, h⟩ := am_cnd_s h
    simp only [Bool.and_eq_true, Nat.ble_eq] at h2
    exact Or.inr (Or.inr (Or.inr (Or.inr (Or.inr ⟨rfl, g, q, t, h1, h2.1, h2.2, h⟩))))
  · cases h
abbrev am_cC : am_F → am_M → Option am_Y := fun f M => some (.inl (true, f, M))
abbrev am_cL : am_F → am_F → am_M → Option am_Y := fun e f M => some (.inr (.inl (e, f, M)))
abbrev am_cR : Option am_V → am_M → Option am_Y := fun v M => some (.inr (.inr (v, M)))
abbrev am_insO (mid pc : Nat) (ls : List (Option am_V)) (st : List am_V) (M : am_M) (ins : Instr) (nx a b ci : Nat) (k : Int32) (sw : List (Int32 × Nat)) : Option am_Y := am_ins none (fun f M => some (.inl (true, f, M))) (fun f M => some (.inl (false, f, M))) (fun e f M => some (.inr (.inl (e, f, M)))) (fun v M => some (.inr (.inr (v, M)))) mid pc ls st M ins nx a b ci k sw
theorem am_fn_at {mid pc : Nat} {ls : List (Option am_V)} {st : List am_V} {M : am_M} {ins : Instr} {nx a b ci w : Nat} {k : Int32} {sw : List (Int32 × Nat)} (h : am_code mid pc = some (ins, nx, a, b, ci, w, k, sw)) : am_fn (mid, pc, ls, st) M = am_insO mid pc ls st M ins nx a b ci k sw := by
  unfold am_fn am_st
  simp only [h]
theorem am_fn_none {mid pc : Nat} {ls : List (Option am_V)} {st : List am_V} {M : am_M} (h : am_code mid pc = none) : am_fn (mid, pc, ls, st) M = none := by
  unfold am_fn am_st
  simp only [h]
theorem dp_iconst {D : va_G} {cs : Nat → ClassId} {sa : Nat → Nat → Nat} {fm : Option Nat} {b0 : Nat} {xs : Nat → Int32} {Ls : Nat} {p : Program} {l : Launch} {e : Env} {R : Room} {s : State} {m : MethodId} {args : Array Value} {below : List Frame} {meth : Method} {c : Code} {Qw : State → Prop} {H : Heap} {locs : List Loc} {lsC : Array Slot} {cells slots : Nat} {ad : Nat → Nat → Nat} {L : List (Nat × Nat)} {mid pc : Nat} {ls : List (Option am_V)} {M : am_M} {st st' : List am_V} {b' : Bool} {mid' pc' nx a b ci w : Nat} {ls' : List (Option am_V)} {M1 : am_M} {k : Int32} {sw : List (Int32 × Nat)} {n : Int} (hv : am_ckB mid pc (.iconst n, nx, a, b, ci, w, k, sw) = true) (hf : am_insO mid pc ls st M (.iconst n) nx a b ci k sw = some (.inl (b', (mid', pc', ls', st'), M1))) (Z : am_Ho D cs sa fm b0 xs Ls p l e R s m args below meth c H locs lsC cells slots ad L mid ls (st) M) (hcl : cells + M1.2.2.2.2.1 ≤ R.cells + M.2.2.2.2.1) (hsl : slots + M1.2.2.2.2.2 ≤ R.slots + M.2.2.2.2.2) : mid' = mid ∧ (am_KK D cs sa fm b0 xs Ls p l e R s m args below meth c Qw mid cells slots M ad L (pc') (ls') (st') (M1) → W p l e R s m args below meth c H locs cells slots Qw (F0 m pc lsC ((st).map (am_cv sa fm ad)))) := by
  simp only [am_ckB, am_ckX, am_ln, Bool.and_eq_true, Bool.or_eq_true, decide_eq_true_eq, Nat.beq_eq, Nat.ble_eq] at hv
  obtain ⟨⟨hd, rfl⟩, hk⟩ := hv
  have hd := of_decide_eq_true hd
  cases hf
  exact ⟨rfl, fun K => sd_iconst hd hk Z K⟩
theorem dp_bipush {D : va_G} {cs : Nat → ClassId} {sa : Nat → Nat → Nat} {fm : Option Nat} {b0 : Nat} {xs : Nat → Int32} {Ls : Nat} {p : Program} {l : Launch} {e : Env} {R : Room} {s : State} {m : MethodId} {args : Array Value} {below : List Frame} {meth : Method} {c : Code} {Qw : State → Prop} {H : Heap} {locs : List Loc} {lsC : Array Slot} {cells slots : Nat} {ad : Nat → Nat → Nat} {L : List (Nat × Nat)} {mid pc : Nat} {ls : List (Option am_V)} {M : am_M} {st st' : List am_V} {b' : Bool} {mid' pc' nx a b ci w : Nat} {ls' : List (Option am_V)} {M1 : am_M} {k : Int32} {sw : List (Int32 × Nat)} {n : Int} (hv : am_ckB mid pc (.bipush n, nx, a, b, ci, w, k, sw) = true) (hf : am_insO mid pc ls st M (.bipush n) nx a b ci k sw = some (.inl (b', (mid', pc', ls', st'), M1))) (Z : am_Ho D cs sa fm b0 xs Ls p l e R s m args below meth c H locs lsC cells slots ad L mid ls (st) M) (hcl : cells + M1.2.2.2.2.1 ≤ R.cells + M.2.2.2.2.1) (hsl : slots + M1.2.2.2.2.2 ≤ R.slots + M.2.2.2.2.2) : mid' = mid ∧ (am_KK D cs sa fm b0 xs Ls p l e R s m args below meth c Qw mid cells slots M ad L (pc') (ls') (st') (M1) → W p l e R s m args below meth c H locs cells slots Qw (F0 m pc lsC ((st).map (am_cv sa fm ad)))) := by
  simp only [am_ckB, am_ckX, am_ln, Bool.and_eq_true, Bool.or_eq_true, decide_eq_true_eq, Nat.beq_eq, Nat.ble_eq] at hv
  obtain ⟨⟨hd, rfl⟩, hk⟩ := hv
  have hd := of_decide_eq_true hd
  cases hf
  exact ⟨rfl, fun K => sd_bipush hd hk Z K⟩
theorem dp_sipush {D : va_G} {cs : Nat → ClassId} {sa : Nat → Nat → Nat} {fm : Option Nat} {b0 : Nat} {xs : Nat → Int32} {Ls : Nat} {p : Program} {l : Launch} {e : Env} {R : Room} {s : State} {m : MethodId} {args : Array Value} {below : List Frame} {meth : Method} {c : Code} {Qw : State → Prop} {H : Heap} {locs : List Loc} {lsC : Array Slot} {cells slots : Nat} {ad : Nat → Nat → Nat} {L : List (Nat × Nat)} {mid pc : Nat} {ls : List (Option am_V)} {M : am_M} {st st' : List am_V} {b' : Bool} {mid' pc' nx a b ci w : Nat} {ls' : List (Option am_V)} {M1 : am_M} {k : Int32} {sw : List (Int32 × Nat)} {n : Int} (hv : am_ckB mid pc (.sipush n, nx, a, b, ci, w, k, sw) = true) (hf : am_insO mid pc ls st M (.sipush n) nx a b ci k sw = some (.inl (b', (mid', pc', ls', st'), M1))) (Z : am_Ho D cs sa fm b0 xs Ls p l e R s m args below meth c H locs lsC cells slots ad L mid ls (st) M) (hcl : cells + M1.2.2.2.2.1 ≤ R.cells + M.2.2.2.2.1) (hsl : slots + M1.2.2.2.2.2 ≤ R.slots + M.2.2.2.2.2) : mid' = mid ∧ (am_KK D cs sa fm b0 xs Ls p l e R s m args below meth c Qw mid cells slots M ad L (pc') (ls') (st') (M1) → W p l e R s m args below meth c H locs cells slots Qw (F0 m pc lsC ((st).map (am_cv sa fm ad)))) := by
  simp only [am_ckB, am_ckX, am_ln, Bool.and_eq_true, Bool.or_eq_true, decide_eq_true_eq, Nat.beq_eq, Nat.ble_eq] at hv
  obtain ⟨⟨hd, rfl⟩, hk⟩ := hv
  have hd := of_decide_eq_true hd
  cases hf
  exact ⟨rfl, fun K => sd_sipush hd hk Z K⟩
theorem dp_lconst {D : va_G} {cs : Nat → ClassId} {sa : Nat → Nat → Nat} {fm : Option Nat} {b0 : Nat} {xs : Nat → Int32} {Ls : Nat} {p : Program} {l : Launch} {e : Env} {R : Room} {s : State} {m : MethodId} {args : Array Value} {below : List Frame} {meth : Method} {c : Code} {Qw : State → Prop} {H : Heap} {locs : List Loc} {lsC : Array Slot} {cells slots : Nat} {ad : Nat → Nat → Nat} {L : List (Nat × Nat)} {mid pc : Nat} {ls : List (Option am_V)} {M : am_M} {st st' : List am_V} {b' : Bool} {mid' pc' nx a b ci w : Nat} {ls' : List (Option am_V)} {M1 : am_M} {k : Int32} {sw : List (Int32 × Nat)} {n : Fin 2} (hv : am_ckB mid pc (.lconst n, nx, a, b, ci, w, k, sw) = true) (hf : am_insO mid pc ls st M (.lconst n) nx a b ci k sw = some (.inl (b', (mid', pc', ls', st'), M1))) (Z : am_Ho D cs sa fm b0 xs Ls p l e R s m args below meth c H locs lsC cells slots ad L mid ls (st) M) (hcl : cells + M1.2.2.2.2.1 ≤ R.cells + M.2.2.2.2.1) (hsl : slots + M1.2.2.2.2.2 ≤ R.slots + M.2.2.2.2.2) : mid' = mid ∧ (am_KK D cs sa fm b0 xs Ls p l e R s m args below meth c Qw mid cells slots M ad L (pc') (ls') (st') (M1) → W p l e R s m args below meth c H locs cells slots Qw (F0 m pc lsC ((st).map (am_cv sa fm ad)))) := by
  simp only [am_ckB, am_ckX, am_ln, Bool.and_eq_true, Bool.or_eq_true, decide_eq_true_eq, Nat.beq_eq, Nat.ble_eq] at hv
  obtain ⟨⟨hd, rfl⟩, hk⟩ := hv
  have hd := of_decide_eq_true hd
  cases hf
  exact ⟨rfl, fun K => sd_lconst hd hk Z K⟩
theorem dp_ldc_w {D : va_G} {cs : Nat → ClassId} {sa : Nat → Nat → Nat} {fm : Option Nat} {b0 : Nat} {xs : Nat → Int32} {Ls : Nat} {p : Program} {l : Launch} {e : Env} {R : Room} {s : State} {m : MethodId} {args : Array Value} {below : List Frame} {meth : Method} {c : Code} {Qw : State → Prop} {H : Heap} {locs : List Loc} {lsC : Array Slot} {cells slots : Nat} {ad : Nat → Nat → Nat} {L : List (Nat × Nat)} {mid pc : Nat} {ls : List (Option am_V)} {M : am_M} {st st' : List am_V} {b' : Bool} {mid' pc' nx a b ci w : Nat} {ls' : List (Option am_V)} {M1 : am_M} {k : Int32} {sw : List (Int32 × Nat)} {n : Nat} (hv : am_ckB mid pc (.ldc_w n, nx, a, b, ci, w, k, sw) = true) (hf : am_insO mid pc ls st M (.ldc_w n) nx a b ci k sw = some (.inl (b', (mid', pc', ls', st'), M1))) (Z : am_Ho D cs sa fm b0 xs Ls p l e R s m args below meth c H locs lsC cells slots ad L mid ls (st) M) (hcl : cells + M1.2.2.2.2.1 ≤ R.cells + M.2.2.2.2.1) (hsl : slots + M1.2.2.2.2.2 ≤ R.slots + M.2.2.2.2.2) : mid' = mid ∧ (am_KK D cs sa fm b0 xs Ls p l e R s m args below meth c Qw mid cells slots M ad L (pc') (ls') (st') (M1) → W p l e R s m args below meth c H locs cells slots Qw (F0 m pc lsC ((st).map (am_cv sa fm ad)))) := by
  simp only [am_ckB, am_ckX, am_ln, Bool.and_eq_true, Bool.or_eq_true, decide_eq_true_eq, Nat.beq_eq, Nat.ble_eq] at hv
  obtain ⟨⟨hd, rfl⟩, hk⟩ := hv
  have hd := of_decide_eq_true hd
  cases hf
  exact ⟨rfl, fun K => sd_ldcw hd hk Z K⟩
theorem dp_ldc2_w {D : va_G} {cs : Nat → ClassId} {sa : Nat → Nat → Nat} {fm : Option Nat} {b0 : Nat} {xs : Nat → Int32} {Ls : Nat} {p : Program} {l : Launch} {e : Env} {R : Room} {s : State} {m : MethodId} {args : Array Value} {below : List Frame} {meth : Method} {c : Code} {Qw : State → Prop} {H : Heap} {locs : List Loc} {lsC : Array Slot} {cells slots : Nat} {ad : Nat → Nat → Nat} {L : List (Nat × Nat)} {mid pc : Nat} {ls : List (Option am_V)} {M : am_M} {st st' : List am_V} {b' : Bool} {mid' pc' nx a b ci w : Nat} {ls' : List (Option am_V)} {M1 : am_M} {k : Int32} {sw : List (Int32 × Nat)} {n : Nat} (hv : am_ckB mid pc (.ldc2_w n, nx, a, b, ci, w, k, sw) = true) (hf : am_insO mid pc ls st M (.ldc2_w n) nx a b ci k sw = some (.inl (b', (mid', pc', ls', st'), M1))) (Z : am_Ho D cs sa fm b0 xs Ls p l e R s m args below meth c H locs lsC cells slots ad L mid ls (st) M) (hcl : cells + M1.2.2.2.2.1 ≤ R.cells + M.2.2.2.2.1) (hsl : slots + M1.2.2.2.2.2 ≤ R.slots + M.2.2.2.2.2) : mid' = mid ∧ (am_KK D cs sa fm b0 xs Ls p l e R s m args below meth c Qw mid cells slots M ad L (pc') (ls') (st') (M1) → W p l e R s m args below meth c H locs cells slots Qw (F0 m pc lsC ((st).map (am_cv sa fm ad)))) := by
  simp only [am_ckB, am_ckX, am_ln, Bool.and_eq_true, Bool.or_eq_true, decide_eq_true_eq, Nat.beq_eq, Nat.ble_eq] at hv
  obtain ⟨⟨hd, rfl⟩, hk⟩ := hv
  have hd := of_decide_eq_true hd
  cases hf
  exact ⟨rfl, fun K => sd_ldc2 hd hk Z K⟩
theorem dp_ldc {D : va_G} {cs : Nat → ClassId} {sa : Nat → Nat → Nat} {fm : Option Nat} {b0 : Nat} {xs : Nat → Int32} {Ls : Nat} {p : Program} {l : Launch} {e : Env} {R : Room} {s : State} {m : MethodId} {args : Array Value} {below : List Frame} {meth : Method} {c : Code} {Qw : State → Prop} {H : Heap} {locs : List Loc} {lsC : Array Slot} {cells slots : Nat} {ad : Nat → Nat → Nat} {L : List (Nat × Nat)} {mid pc : Nat} {ls : List (Option am_V)} {M : am_M} {st st' : List am_V} {b' : Bool} {mid' pc' nx a b ci w : Nat} {ls' : List (Option am_V)} {M1 : am_M} {k : Int32} {sw : List (Int32 × Nat)} {n : Nat} (hv : am_ckB mid pc (.ldc n, nx, a, b, ci, w, k, sw) = true) (hf : am_insO mid pc ls st M (.ldc n) nx a b ci k sw = some (.inl (b', (mid', pc', ls', st'), M1))) (Z : am_Ho D cs sa fm b0 xs Ls p l e R s m args below meth c H locs lsC cells slots ad L mid ls (st) M) (hcl : cells + M1.2.2.2.2.1 ≤ R.cells + M.2.2.2.2.1) (hsl : slots + M1.2.2.2.2.2 ≤ R.slots + M.2.2.2.2.2) : mid' = mid ∧ (am_KK D cs sa fm b0 xs Ls p l e R s m args below meth c Qw mid cells slots M ad L (pc') (ls') (st') (M1) → W p l e R s m args below meth c H locs cells slots Qw (F0 m pc lsC ((st).map (am_cv sa fm ad)))) := by
  simp only [am_ckB, am_ckX, am_ln, Bool.and_eq_true, Bool.or_eq_true, decide_eq_true_eq, Nat.beq_eq, Nat.ble_eq] at hv
  obtain ⟨⟨hd, rfl⟩, hk⟩ := hv
  have hd := of_decide_eq_true hd
  have hf : cond (Nat.beq b 1) _ _ = some _ := hf
  cases hb : Nat.beq b 1 with
  | true =>
    rw [hb] at hf hk
    cases hf
    simp only [cond_true, Bool.and_eq_true, Nat.ble_eq, Nat.beq_eq, decide_eq_true_eq] at hk
    exact ⟨rfl, fun K => sd_ldcs hd (by omega) hk.1.2 hk.2 Z K⟩
  | false =>
    rw [hb] at hf hk
    cases hf
    exact ⟨rfl, fun K => sd_ldc hd hk Z K⟩
theorem dp_aconst_null {D : va_G} {cs : Nat → ClassId} {sa : Nat → Nat → Nat} {fm : Option Nat} {b0 : Nat} {xs : Nat → Int32} {Ls : Nat} {p : Program} {l : Launch} {e : Env} {R : Room} {s : State} {m : MethodId} {args : Array Value} {below : List Frame} {meth : Method} {c : Code} {Qw : State → Prop} {H : Heap} {locs : List Loc} {lsC : Array Slot} {cells slots : Nat} {ad : Nat → Nat → Nat} {L : List (Nat × Nat)} {mid pc : Nat} {ls : List (Option am_V)} {M : am_M} {st st' : List am_V} {b' : Bool} {mid' pc' nx a b ci w : Nat} {ls' : List (Option am_V)} {M1 : am_M} {k : Int32} {sw : List (Int32 × Nat)}  (hv : am_ckB mid pc (.aconst_null, nx, a, b, ci, w, k, sw) = true) (hf : am_insO mid pc ls st M (.aconst_null) nx a b ci k sw = some (.inl (b', (mid', pc', ls', st'), M1))) (Z : am_Ho D cs sa fm b0 xs Ls p l e R s m args below meth c H locs lsC cells slots ad L mid ls (st) M) (hcl : cells + M1.2.2.2.2.1 ≤ R.cells + M.2.2.2.2.1) (hsl : slots + M1.2.2.2.2.2 ≤ R.slots + M.2.2.2.2.2) : mid' = mid ∧ (am_KK D cs sa fm b0 xs Ls p l e R s m args below meth c Qw mid cells slots M ad L (pc') (ls') (st') (M1) → W p l e R s m args below meth c H locs cells slots Qw (F0 m pc lsC ((st).map (am_cv sa fm ad)))) := by
  simp only [am_ckB, am_ckX, am_ln, Bool.and_eq_true, Bool.or_eq_true, decide_eq_true_eq, Nat.beq_eq, Nat.ble_eq] at hv
  obtain ⟨⟨hd, rfl⟩, -⟩ := hv
  have hd := of_decide_eq_true hd
  cases hf
  exact ⟨rfl, fun K => sd_null hd Z K⟩
theorem dp_iload_n {D : va_G} {cs : Nat → ClassId} {sa : Nat → Nat → Nat} {fm : Option Nat} {b0 : Nat} {xs : Nat → Int32} {Ls : Nat} {p : Program} {l : Launch} {e : Env} {R : Room} {s : State} {m : MethodId} {args : Array Value} {below : List Frame} {meth : Method} {c : Code} {Qw : State → Prop} {H : Heap} {locs : List Loc} {lsC : Array Slot} {cells slots : Nat} {ad : Nat → Nat → Nat} {L : List (Nat × Nat)} {mid pc : Nat} {ls : List (Option am_V)} {M : am_M} {st st' : List am_V} {b' : Bool} {mid' pc' nx a b ci w : Nat} {ls' : List (Option am_V)} {M1 : am_M} {k : Int32} {sw : List (Int32 × Nat)} {n : Fin 4} (hv : am_ckB mid pc (.iload_n n, nx, a, b, ci, w, k, sw) = true) (hf : am_insO mid pc ls st M (.iload_n n) nx a b ci k sw = some (.inl (b', (mid', pc', ls', st'), M1))) (Z : am_Ho D cs sa fm b0 xs Ls p l e R s m args below meth c H locs lsC cells slots ad L mid ls (st) M) (hcl : cells + M1.2.2.2.2.1 ≤ R.cells + M.2.2.2.2.1) (hsl : slots + M1.2.2.2.2.2 ≤ R.slots + M.2.2.2.2.2) : mid' = mid ∧ (am_KK D cs sa fm b0 xs Ls p l e R s m args below meth c Qw mid cells slots M ad L (pc') (ls') (st') (M1) → W p l e R s m args below meth c H locs cells slots Qw (F0 m pc lsC ((st).map (am_cv sa fm ad)))) := by
  simp only [am_ckB, am_ckX, am_ln, Bool.and_eq_true, Bool.or_eq_true, decide_eq_true_eq, Nat.beq_eq, Nat.ble_eq] at hv
  obtain ⟨⟨hd, rfl⟩, hn⟩ := hv
  have hd := of_decide_eq_true hd
  obtain ⟨x, hg, hf⟩ := am_iv_s hf
  cases hf
  exact ⟨rfl, fun K => sd_iload_n hd hn hg Z K⟩
theorem dp_iload {D : va_G} {cs : Nat → ClassId} {sa : Nat → Nat → Nat} {fm : Option Nat} {b0 : Nat} {xs : Nat → Int32} {Ls : Nat} {p : Program} {l : Launch} {e : Env} {R : Room} {s : State} {m : MethodId} {args : Array Value} {below : List Frame} {meth : Method} {c : Code} {Qw : State → Prop} {H : Heap} {locs : List Loc} {lsC : Array Slot} {cells slots : Nat} {ad : Nat → Nat → Nat} {L : List (Nat × Nat)} {mid pc : Nat} {ls : List (Option am_V)} {M : am_M} {st st' : List am_V} {b' : Bool} {mid' pc' nx a b ci w : Nat} {ls' : List (Option am_V)} {M1 : am_M} {k : Int32} {sw : List (Int32 × Nat)} {n : Nat} (hv : am_ckB mid pc (.iload n, nx, a, b, ci, w, k, sw) = true) (hf : am_insO mid pc ls st M (.iload n) nx a b ci k sw = some (.inl (b', (mid', pc', ls', st'), M1))) (Z : am_Ho D cs sa fm b0 xs Ls p l e R s m args below meth c H locs lsC cells slots ad L mid ls (st) M) (hcl : cells + M1.2.2.2.2.1 ≤ R.cells + M.2.2.2.2.1) (hsl : slots + M1.2.2.2.2.2 ≤ R.slots + M.2.2.2.2.2) : mid' = mid ∧ (am_KK D cs sa fm b0 xs Ls p l e R s m args below meth c Qw mid cells slots M ad L (pc') (ls') (st') (M1) → W p l e R s m args below meth c H locs cells slots Qw (F0 m pc lsC ((st).map (am_cv sa fm ad)))) := by
  simp only [am_ckB, am_ckX, am_ln, Bool.and_eq_true, Bool.or_eq_true, decide_eq_true_eq, Nat.beq_eq, Nat.ble_eq] at hv
  obtain ⟨⟨hd, rfl⟩, rfl⟩ := hv
  have hd := of_decide_eq_true hd
  obtain ⟨x, hg, hf⟩ := am_iv_s hf
  cases hf
  exact ⟨rfl, fun K => sd_iload hd hg Z K⟩
theorem dp_lload_n {D : va_G} {cs : Nat → ClassId} {sa : Nat → Nat → Nat} {fm : Option Nat} {b0 : Nat} {xs : Nat → Int32} {Ls : Nat} {p : Program} {l : Launch} {e : Env} {R : Room} {s : State} {m : MethodId} {args : Array Value} {below : List Frame} {meth : Method} {c : Code} {Qw : State → Prop} {H : Heap} {locs : List Loc} {lsC : Array Slot} {cells slots : Nat} {ad : Nat → Nat → Nat} {L : List (Nat × Nat)} {mid pc : Nat} {ls : List (Option am_V)} {M : am_M} {st st' : List am_V} {b' : Bool} {mid' pc' nx a b ci w : Nat} {ls' : List (Option am_V)} {M1 : am_M} {k : Int32} {sw : List (Int32 × Nat)} {n : Fin 4} (hv : am_ckB mid pc (.lload_n n, nx, a, b, ci, w, k, sw) = true) (hf : am_insO mid pc ls st M (.lload_n n) nx a b ci k sw = some (.inl (b', (mid', pc', ls', st'), M1))) (Z : am_Ho D cs sa fm b0 xs Ls p l e R s m args below meth c H locs lsC cells slots ad L mid ls (st) M) (hcl : cells + M1.2.2.2.2.1 ≤ R.cells + M.2.2.2.2.1) (hsl : slots + M1.2.2.2.2.2 ≤ R.slots + M.2.2.2.2.2) : mid' = mid ∧ (am_KK D cs sa fm b0 xs Ls p l e R s m args below meth c Qw mid cells slots M ad L (pc') (ls') (st') (M1) → W p l e R s m args below meth c H locs cells slots Qw (F0 m pc lsC ((st).map (am_cv sa fm ad)))) := by
  simp only [am_ckB, am_ckX, am_ln, Bool.and_eq_true, Bool.or_eq_true, decide_eq_true_eq, Nat.beq_eq, Nat.ble_eq] at hv
  obtain ⟨⟨hd, rfl⟩, hn⟩ := hv
  have hd := of_decide_eq_true hd
  obtain ⟨x, hg, hf⟩ := am_lv_s hf
  cases hf
  exact ⟨rfl, fun K => sd_lload_n hd hn hg Z K⟩
theorem dp_lload {D : va_G} {cs : Nat → ClassId} {sa : Nat → Nat → Nat} {fm : Option Nat} {b0 : Nat} {xs : Nat → Int32} {Ls : Nat} {p : Program} {l : Launch} {e : Env} {R : Room} {s : State} {m : MethodId} {args : Array Value} {below : List Frame} {meth : Method} {c : Code} {Qw : State → Prop} {H : Heap} {locs : List Loc} {lsC : Array Slot} {cells slots : Nat} {ad : Nat → Nat → Nat} {L : List (Nat × Nat)} {mid pc : Nat} {ls : List (Option am_V)} {M : am_M} {st st' : List am_V} {b' : Bool} {mid' pc' nx a b ci w : Nat} {ls' : List (Option am_V)} {M1 : am_M} {k : Int32} {sw : List (Int32 × Nat)} {n : Nat} (hv : am_ckB mid pc (.lload n, nx, a, b, ci, w, k, sw) = true) (hf : am_insO mid pc ls st M (.lload n) nx a b ci k sw = some (.inl (b', (mid', pc', ls', st'), M1))) (Z : am_Ho D cs sa fm b0 xs Ls p l e R s m args below meth c H locs lsC cells slots ad L mid ls (st) M) (hcl : cells + M1.2.2.2.2.1 ≤ R.cells + M.2.2.2.2.1) (hsl : slots + M1.2.2.2.2.2 ≤ R.slots + M.2.2.2.2.2) : mid' = mid ∧ (am_KK D cs sa fm b0 xs Ls p l e R s m args below meth c Qw mid cells slots M ad L (pc') (ls') (st') (M1) → W p l e R s m args below meth c H locs cells slots Qw (F0 m pc lsC ((st).map (am_cv sa fm ad)))) := by
  simp only [am_ckB, am_ckX, am_ln, Bool.and_eq_true, Bool.or_eq_true, decide_eq_true_eq, Nat.beq_eq, Nat.ble_eq] at hv
  obtain ⟨⟨hd, rfl⟩, rfl⟩ := hv
  have hd := of_decide_eq_true hd
  obtain ⟨x, hg, hf⟩ := am_lv_s hf
  cases hf
  exact ⟨rfl, fun K => sd_lload hd hg Z K⟩
theorem dp_aload_n {D : va_G} {cs : Nat → ClassId} {sa : Nat → Nat → Nat} {fm : Option Nat} {b0 : Nat} {xs : Nat → Int32} {Ls : Nat} {p : Program} {l : Launch} {e : Env} {R : Room} {s : State} {m : MethodId} {args : Array Value} {below : List Frame} {meth : Method} {c : Code} {Qw : State → Prop} {H : Heap} {locs : List Loc} {lsC : Array Slot} {cells slots : Nat} {ad : Nat → Nat → Nat} {L : List (Nat × Nat)} {mid pc : Nat} {ls : List (Option am_V)} {M : am_M} {st st' : List am_V} {b' : Bool} {mid' pc' nx a b ci w : Nat} {ls' : List (Option am_V)} {M1 : am_M} {k : Int32} {sw : List (Int32 × Nat)} {n : Fin 4} (hv : am_ckB mid pc (.aload_n n, nx, a, b, ci, w, k, sw) = true) (hf : am_insO mid pc ls st M (.aload_n n) nx a b ci k sw = some (.inl (b', (mid', pc', ls', st'), M1))) (Z : am_Ho D cs sa fm b0 xs Ls p l e R s m args below meth c H locs lsC cells slots ad L mid ls (st) M) (hcl : cells + M1.2.2.2.2.1 ≤ R.cells + M.2.2.2.2.1) (hsl : slots + M1.2.2.2.2.2 ≤ R.slots + M.2.2.2.2.2) : mid' = mid ∧ (am_KK D cs sa fm b0 xs Ls p l e R s m args below meth c Qw mid cells slots M ad L (pc') (ls') (st') (M1) → W p l e R s m args below meth c H locs cells slots Qw (F0 m pc lsC ((st).map (am_cv sa fm ad)))) := by
  simp only [am_ckB, am_ckX, am_ln, Bool.and_eq_true, Bool.or_eq_true, decide_eq_true_eq, Nat.beq_eq, Nat.ble_eq] at hv
  obtain ⟨⟨hd, rfl⟩, hn⟩ := hv
  have hd := of_decide_eq_true hd
  obtain ⟨x, hg, hf⟩ := am_qv_s hf
  cases hf
  exact ⟨rfl, fun K => sd_aload_n hd hn hg Z K⟩
theorem dp_aload {D : va_G} {cs : Nat → ClassId} {sa : Nat → Nat → Nat} {fm : Option Nat} {b0 : Nat} {xs : Nat → Int32} {Ls : Nat} {p : Program} {l : Launch} {e : Env} {R : Room} {s : State} {m : MethodId} {args : Array Value} {below : List Frame} {meth : Method} {c : Code} {Qw : State → Prop} {H : Heap} {locs : List Loc} {lsC : Array Slot} {cells slots : Nat} {ad : Nat → Nat → Nat} {L : List (Nat × Nat)} {mid pc : Nat} {ls : List (Option am_V)} {M : am_M} {st st' : List am_V} {b' : Bool} {mid' pc' nx a b ci w : Nat} {ls' : List (Option am_V)} {M1 : am_M} {k : Int32} {sw : List (Int32 × Nat)} {n : Nat} (hv : am_ckB mid pc (.aload n, nx, a, b, ci, w, k, sw) = true) (hf : am_insO mid pc ls st M (.aload n) nx a b ci k sw = some (.inl (b', (mid', pc', ls', st'), M1))) (Z : am_Ho D cs sa fm b0 xs Ls p l e R s m args below meth c H locs lsC cells slots ad L mid ls (st) M) (hcl : cells + M1.2.2.2.2.1 ≤ R.cells + M.2.2.2.2.1) (hsl : slots + M1.2.2.2.2.2 ≤ R.slots + M.2.2.2.2.2) : mid' = mid ∧ (am_KK D cs sa fm b0 xs Ls p l e R s m args below meth c Qw mid cells slots M ad L (pc') (ls') (st') (M1) → W p l e R s m args below meth c H locs cells slots Qw (F0 m pc lsC ((st).map (am_cv sa fm ad)))) := by
  simp only [am_ckB, am_ckX, am_ln, Bool.and_eq_true, Bool.or_eq_true, decide_eq_true_eq, Nat.beq_eq, Nat.ble_eq] at hv
  obtain ⟨⟨hd, rfl⟩, rfl⟩ := hv
  have hd := of_decide_eq_true hd
  obtain ⟨x, hg, hf⟩ := am_qv_s hf
  cases hf
  exact ⟨rfl, fun K => sd_aload hd hg Z K⟩
theorem dp_istore_n {D : va_G} {cs : Nat → ClassId} {sa : Nat → Nat → Nat} {fm : Option Nat} {b0 : Nat} {xs : Nat → Int32} {Ls : Nat} {p : Program} {l : Launch} {e : Env} {R : Room} {s : State} {m : MethodId} {args : Array Value} {below : List Frame} {meth : Method} {c : Code} {Qw : State → Prop} {H : Heap} {locs : List Loc} {lsC : Array Slot} {cells slots : Nat} {ad : Nat → Nat → Nat} {L : List (Nat × Nat)} {mid pc : Nat} {ls : List (Option am_V)} {M : am_M} {st st' : List am_V} {b' : Bool} {mid' pc' nx a b ci w : Nat} {ls' : List (Option am_V)} {M1 : am_M} {k : Int32} {sw : List (Int32 × Nat)} {n : Fin 4} (hv : am_ckB mid pc (.istore_n n, nx, a, b, ci, w, k, sw) = true) (hf : am_insO mid pc ls st M (.istore_n n) nx a b ci k sw = some (.inl (b', (mid', pc', ls', st'), M1))) (Z : am_Ho D cs sa fm b0 xs Ls p l e R s m args below meth c H locs lsC cells slots ad L mid ls (st) M) (hcl : cells + M1.2.2.2.2.1 ≤ R.cells + M.2.2.2.2.1) (hsl : slots + M1.2.2.2.2.2 ≤ R.slots + M.2.2.2.2.2) : mid' = mid ∧ (am_KK D cs sa fm b0 xs Ls p l e R s m args below meth c Qw mid cells slots M ad L (pc') (ls') (st') (M1) → W p l e R s m args below meth c H locs cells slots Qw (F0 m pc lsC ((st).map (am_cv sa fm ad)))) := by
  simp only [am_ckB, am_ckX, am_ln, Bool.and_eq_true, Bool.or_eq_true, decide_eq_true_eq, Nat.beq_eq, Nat.ble_eq] at hv
  obtain ⟨⟨hd, rfl⟩, hn, ha⟩ := hv
  have hd := of_decide_eq_true hd
  obtain ⟨hl, hf⟩ := am_cnf_s hf
  obtain ⟨x, t, rfl, hf⟩ := am_i1_s hf
  cases hf
  exact ⟨rfl, fun K => sd_istore_n hd hn ha hl Z K⟩
theorem dp_istore {D : va_G} {cs : Nat → ClassId} {sa : Nat → Nat → Nat} {fm : Option Nat} {b0 : Nat} {xs : Nat → Int32} {Ls : Nat} {p : Program} {l : Launch} {e : Env} {R : Room} {s : State} {m : MethodId} {args : Array Value} {below : List Frame} {meth : Method} {c : Code} {Qw : State → Prop} {H : Heap} {locs : List Loc} {lsC : Array Slot} {cells slots : Nat} {ad : Nat → Nat → Nat} {L : List (Nat × Nat)} {mid pc : Nat} {ls : List (Option am_V)} {M : am_M} {st st' : List am_V} {b' : Bool} {mid' pc' nx a b ci w : Nat} {ls' : List (Option am_V)} {M1 : am_M} {k : Int32} {sw : List (Int32 × Nat)} {n : Nat} (hv : am_ckB mid pc (.istore n, nx, a, b, ci, w, k, sw) = true) (hf : am_insO mid pc ls st M (.istore n) nx a b ci k sw = some (.inl (b', (mid', pc', ls', st'), M1))) (Z : am_Ho D cs sa fm b0 xs Ls p l e R s m args below meth c H locs lsC cells slots ad L mid ls (st) M) (hcl : cells + M1.2.2.2.2.1 ≤ R.cells + M.2.2.2.2.1) (hsl : slots + M1.2.2.2.2.2 ≤ R.slots + M.2.2.2.2.2) : mid' = mid ∧ (am_KK D cs sa fm b0 xs Ls p l e R s m args below meth c Qw mid cells slots M ad L (pc') (ls') (st') (M1) → W p l e R s m args below meth c H locs cells slots Qw (F0 m pc lsC ((st).map (am_cv sa fm ad)))) := by
  simp only [am_ckB, am_ckX, am_ln, Bool.and_eq_true, Bool.or_eq_true, decide_eq_true_eq, Nat.beq_eq, Nat.ble_eq] at hv
  obtain ⟨⟨hd, rfl⟩, rfl, ha⟩ := hv
  have hd := of_decide_eq_true hd
  obtain ⟨hl, hf⟩ := am_cnf_s hf
  obtain ⟨x, t, rfl, hf⟩ := am_i1_s hf
  cases hf
  exact ⟨rfl, fun K => sd_istore hd ha hl Z K⟩
theorem dp_astore_n {D : va_G} {cs : Nat → ClassId} {sa : Nat → Nat → Nat} {fm : Option Nat} {b0 : Nat} {xs : Nat → Int32} {Ls : Nat} {p : Program} {l : Launch} {e : Env} {R : Room} {s : State} {m : MethodId} {args : Array Value} {below : List Frame} {meth : Method} {c : Code} {Qw : State → Prop} {H : Heap} {locs : List Loc} {lsC : Array Slot} {cells slots : Nat} {ad : Nat → Nat → Nat} {L : List (Nat × Nat)} {mid pc : Nat} {ls : List (Option am_V)} {M : am_M} {st st' : List am_V} {b' : Bool} {mid' pc' nx a b ci w : Nat} {ls' : List (Option am_V)} {M1 : am_M} {k : Int32} {sw : List (Int32 × Nat)} {n : Fin 4} (hv : am_ckB mid pc (.astore_n n, nx, a, b, ci, w, k, sw) = true) (hf : am_insO mid pc ls st M (.astore_n n) nx a b ci k sw = some (.inl (b', (mid', pc', ls', st'), M1))) (Z : am_Ho D cs sa fm b0 xs Ls p l e R s m args below meth c H locs lsC cells slots ad L mid ls (st) M) (hcl : cells + M1.2.2.2.2.1 ≤ R.cells + M.2.2.2.2.1) (hsl : slots + M1.2.2.2.2.2 ≤ R.slots + M.2.2.2.2.2) : mid' = mid ∧ (am_KK D cs sa fm b0 xs Ls p l e R s m args below meth c Qw mid cells slots M ad L (pc') (ls') (st') (M1) → W p l e R s m args below meth c H locs cells slots Qw (F0 m pc lsC ((st).map (am_cv sa fm ad)))) := by
  simp only [am_ckB, am_ckX, am_ln, Bool.and_eq_true, Bool.or_eq_true, decide_eq_true_eq, Nat.beq_eq, Nat.ble_eq] at hv
  obtain ⟨⟨hd, rfl⟩, hn, ha⟩ := hv
  have hd := of_decide_eq_true hd
  obtain ⟨hl, hf⟩ := am_cnf_s hf
  obtain ⟨r, t, rfl, hf⟩ := am_q1_s hf
  rcases am_al_s hf with ⟨rfl, hf⟩ | ⟨g, q, rfl, hg, hf⟩
  · cases hf
    exact ⟨rfl, fun K => sd_astore_nN hd hn ha hl Z K⟩
  · cases hf
    exact ⟨rfl, fun K => sd_astore_n hd hn ha hl hg Z K⟩
theorem dp_astore {D : va_G} {cs : Nat → ClassId} {sa : Nat → Nat → Nat} {fm : Option Nat} {b0 : Nat} {xs : Nat → Int32} {Ls : Nat} {p : Program} {l : Launch} {e : Env} {R : Room} {s : State} {m : MethodId} {args : Array Value} {below : List Frame} {meth : Method} {c : Code} {Qw : State → Prop} {H : Heap} {locs : List Loc} {lsC : Array Slot} {cells slots : Nat} {ad : Nat → Nat → Nat} {L : List (Nat × Nat)} {mid pc : Nat} {ls : List (Option am_V)} {M : am_M} {st st' : List am_V} {b' : Bool} {mid' pc' nx a b ci w : Nat} {ls' : List (Option am_V)} {M1 : am_M} {k : Int32} {sw : List (Int32 × Nat)} {n : Nat} (hv : am_ckB mid pc (.astore n, nx, a, b, ci, w, k, sw) = true) (hf : am_insO mid pc ls st M (.astore n) nx a b ci k sw = some (.inl (b', (mid', pc', ls', st'), M1))) (Z : am_Ho D cs sa fm b0 xs Ls p l e R s m args below meth c H locs lsC cells slots ad L mid ls (st) M) (hcl : cells + M1.2.2.2.2.1 ≤ R.cells + M.2.2.2.2.1) (hsl : slots + M1.2.2.2.2.2 ≤ R.slots + M.2.2.2.2.2) : mid' = mid ∧ (am_KK D cs sa fm b0 xs Ls p l e R s m args below meth c Qw mid cells slots M ad L (pc') (ls') (st') (M1) → W p l e R s m args below meth c H locs cells slots Qw (F0 m pc lsC ((st).map (am_cv sa fm ad)))) := by
  simp only [am_ckB, am_ckX, am_ln, Bool.and_eq_true, Bool.or_eq_true, decide_eq_true_eq, Nat.beq_eq, Nat.ble_eq] at hv
  obtain ⟨⟨hd, rfl⟩, rfl, ha⟩ := hv
  have hd := of_decide_eq_true hd
  obtain ⟨hl, hf⟩ := am_cnf_s hf
  obtain ⟨r, t, rfl, hf⟩ := am_q1_s hf
  rcases am_al_s hf with ⟨rfl, hf⟩ | ⟨g, q, rfl, hg, hf⟩
  · cases hf
    exact ⟨rfl, fun K => sd_astoreN hd ha hl Z K⟩
  · cases hf
    exact ⟨rfl, fun K => sd_astore hd ha hl hg Z K⟩
theorem dp_iinc {D : va_G} {cs : Nat → ClassId} {sa : Nat → Nat → Nat} {fm : Option Nat} {b0 : Nat} {xs : Nat → Int32} {Ls : Nat} {p : Program} {l : Launch} {e : Env} {R : Room} {s : State} {m : MethodId} {args : Array Value} {below : List Frame} {meth : Method} {c : Code} {Qw : State → Prop} {H : Heap} {locs : List Loc} {lsC : Array Slot} {cells slots : Nat} {ad : Nat → Nat → Nat} {L : List (Nat × Nat)} {mid pc : Nat} {ls : List (Option am_V)} {M : am_M} {st st' : List am_V} {b' : Bool} {mid' pc' nx a b ci w : Nat} {ls' : List (Option am_V)} {M1 : am_M} {k : Int32} {sw : List (Int32 × Nat)} {n : Nat} {z : Int} (hv : am_ckB mid pc (.iinc n z, nx, a, b, ci, w, k, sw) = true) (hf : am_insO mid pc ls st M (.iinc n z) nx a b ci k sw = some (.inl (b', (mid', pc', ls', st'), M1))) (Z : am_Ho D cs sa fm b0 xs Ls p l e R s m args below meth c H locs lsC cells slots ad L mid ls (st) M) (hcl : cells + M1.2.2.2.2.1 ≤ R.cells + M.2.2.2.2.1) (hsl : slots + M1.2.2.2.2.2 ≤ R.slots + M.2.2.2.2.2) : mid' = mid ∧ (am_KK D cs sa fm b0 xs Ls p l e R s m args below meth c Qw mid cells slots M ad L (pc') (ls') (st') (M1) → W p l e R s m args below meth c H locs cells slots Qw (F0 m pc lsC ((st).map (am_cv sa fm ad)))) := by
  simp only [am_ckB, am_ckX, am_ln, Bool.and_eq_true, Bool.or_eq_true, decide_eq_true_eq, Nat.beq_eq, Nat.ble_eq] at hv
  obtain ⟨⟨hd, rfl⟩, ⟨rfl, ha⟩, hk⟩ := hv
  have hd := of_decide_eq_true hd
  obtain ⟨hl, hf⟩ := am_cnf_s hf
  obtain ⟨x, hg, hf⟩ := am_iv_s hf
  cases hf
  exact ⟨rfl, fun K => sd_iinc hd hk hg ha hl Z K⟩
theorem dp_iadd {D : va_G} {cs : Nat → ClassId} {sa : Nat → Nat → Nat} {fm : Option Nat} {b0 : Nat} {xs : Nat → Int32} {Ls : Nat} {p : Program} {l : Launch} {e : Env} {R : Room} {s : State} {m : MethodId} {args : Array Value} {below : List Frame} {meth : Method} {c : Code} {Qw : State → Prop} {H : Heap} {locs : List Loc} {lsC : Array Slot} {cells slots : Nat} {ad : Nat → Nat → Nat} {L : List (Nat × Nat)} {mid pc : Nat} {ls : List (Option am_V)} {M : am_M} {st st' : List am_V} {b' : Bool} {mid' pc' nx a b ci w : Nat} {ls' : List (Option am_V)} {M1 : am_M} {k : Int32} {sw : List (Int32 × Nat)}  (hv : am_ckB mid pc (.iadd, nx, a, b, ci, w, k, sw) = true) (hf : am_insO mid pc ls st M (.iadd) nx a b ci k sw = some (.inl (b', (mid', pc', ls', st'), M1))) (Z : am_Ho D cs sa fm b0 xs Ls p l e R s m args below meth c H locs lsC cells slots ad L mid ls (st) M) (hcl : cells + M1.2.2.2.2.1 ≤ R.cells + M.2.2.2.2.1) (hsl : slots + M1.2.2.2.2.2 ≤ R.slots + M.2.2.2.2.2) : mid' = mid ∧ (am_KK D cs sa fm b0 xs Ls p l e R s m args below meth c Qw mid cells slots M ad L (pc') (ls') (st') (M1) → W p l e R s m args below meth c H locs cells slots Qw (F0 m pc lsC ((st).map (am_cv sa fm ad)))) := by
  simp only [am_ckB, am_ckX, am_ln, Bool.and_eq_true, Bool.or_eq_true, decide_eq_true_eq, Nat.beq_eq, Nat.ble_eq] at hv
  obtain ⟨⟨hd, rfl⟩, -⟩ := hv
  have hd := of_decide_eq_true hd
  obtain ⟨x, y, t, rfl, hf⟩ := am_i2_s hf
  cases hf
  exact ⟨rfl, fun K => sd_iadd hd Z K⟩
theorem dp_isub {D : va_G} {cs : Nat → ClassId} {sa : Nat → Nat → Nat} {fm : Option Nat} {b0 : Nat} {xs : Nat → Int32} {Ls : Nat} {p : Program} {l : Launch} {e : Env} {R : Room} {s : State} {m : MethodId} {args : Array Value} {below : List Frame} {meth : Method} {c : Code} {Qw : State → Prop} {H : Heap} {locs : List Loc} {lsC : Array Slot} {cells slots : Nat} {ad : Nat → Nat → Nat} {L : List (Nat × Nat)} {mid pc : Nat} {ls : List (Option am_V)} {M : am_M} {st st' : List am_V} {b' : Bool} {mid' pc' nx a b ci w : Nat} {ls' : List (Option am_V)} {M1 : am_M} {k : Int32} {sw : List (Int32 × Nat)}  (hv : am_ckB mid pc (.isub, nx, a, b, ci, w, k, sw) = true) (hf : am_insO mid pc ls st M (.isub) nx a b ci k sw = some (.inl (b', (mid', pc', ls', st'), M1))) (Z : am_Ho D cs sa fm b0 xs Ls p l e R s m args below meth c H locs lsC cells slots ad L mid ls (st) M) (hcl : cells + M1.2.2.2.2.1 ≤ R.cells + M.2.2.2.2.1) (hsl : slots + M1.2.2.2.2.2 ≤ R.slots + M.2.2.2.2.2) : mid' = mid ∧ (am_KK D cs sa fm b0 xs Ls p l e R s m args below meth c Qw mid cells slots M ad L (pc') (ls') (st') (M1) → W p l e R s m args below meth c H locs cells slots Qw (F0 m pc lsC ((st).map (am_cv sa fm ad)))) := by
  simp only [am_ckB, am_ckX, am_ln, Bool.and_eq_true, Bool.or_eq_true, decide_eq_true_eq, Nat.beq_eq, Nat.ble_eq] at hv
  obtain ⟨⟨hd, rfl⟩, -⟩ := hv
  have hd := of_decide_eq_true hd
  obtain ⟨x, y, t, rfl, hf⟩ := am_i2_s hf
  cases hf
  exact ⟨rfl, fun K => sd_isub hd Z K⟩
theorem dp_imul {D : va_G} {cs : Nat → ClassId} {sa : Nat → Nat → Nat} {fm : Option Nat} {b0 : Nat} {xs : Nat → Int32} {Ls : Nat} {p : Program} {l : Launch} {e : Env} {R : Room} {s : State} {m : MethodId} {args : Array Value} {below : List Frame} {meth : Method} {c : Code} {Qw : State → Prop} {H : Heap} {locs : List Loc} {lsC : Array Slot} {cells slots : Nat} {ad : Nat → Nat → Nat} {L : List (Nat × Nat)} {mid pc : Nat} {ls : List (Option am_V)} {M : am_M} {st st' : List am_V} {b' : Bool} {mid' pc' nx a b ci w : Nat} {ls' : List (Option am_V)} {M1 : am_M} {k : Int32} {sw : List (Int32 × Nat)}  (hv : am_ckB mid pc (.imul, nx, a, b, ci, w, k, sw) = true) (hf : am_insO mid pc ls st M (.imul) nx a b ci k sw = some (.inl (b', (mid', pc', ls', st'), M1))) (Z : am_Ho D cs sa fm b0 xs Ls p l e R s m args below meth c H locs lsC cells slots ad L mid ls (st) M) (hcl : cells + M1.2.2.2.2.1 ≤ R.cells + M.2.2.2.2.1) (hsl : slots + M1.2.2.2.2.2 ≤ R.slots + M.2.2.2.2.2) : mid' = mid ∧ (am_KK D cs sa fm b0 xs Ls p l e R s m args below meth c Qw mid cells slots M ad L (pc') (ls') (st') (M1) → W p l e R s m args below meth c H locs cells slots Qw (F0 m pc lsC ((st).map (am_cv sa fm ad)))) := by
  simp only [am_ckB, am_ckX, am_ln, Bool.and_eq_true, Bool.or_eq_true, decide_eq_true_eq, Nat.beq_eq, Nat.ble_eq] at hv
  obtain ⟨⟨hd, rfl⟩, -⟩ := hv
  have hd := of_decide_eq_true hd
  obtain ⟨x, y, t, rfl, hf⟩ := am_i2_s hf
  cases hf
  exact ⟨rfl, fun K => sd_imul hd Z K⟩
theorem dp_iand {D : va_G} {cs : Nat → ClassId} {sa : Nat → Nat → Nat} {fm : Option Nat} {b0 : Nat} {xs : Nat → Int32} {Ls : Nat} {p : Program} {l : Launch} {e : Env} {R : Room} {s : State} {m : MethodId} {args : Array Value} {below : List Frame} {meth : Method} {c : Code} {Qw : State → Prop} {H : Heap} {locs : List Loc} {lsC : Array Slot} {cells slots : Nat} {ad : Nat → Nat → Nat} {L : List (Nat × Nat)} {mid pc : Nat} {ls : List (Option am_V)} {M : am_M} {st st' : List am_V} {b' : Bool} {mid' pc' nx a b ci w : Nat} {ls' : List (Option am_V)} {M1 : am_M} {k : Int32} {sw : List (Int32 × Nat)}  (hv : am_ckB mid pc (.iand, nx, a, b, ci, w, k, sw) = true) (hf : am_insO mid pc ls st M (.iand) nx a b ci k sw = some (.inl (b', (mid', pc', ls', st'), M1))) (Z : am_Ho D cs sa fm b0 xs Ls p l e R s m args below meth c H locs lsC cells slots ad L mid ls (st) M) (hcl : cells + M1.2.2.2.2.1 ≤ R.cells + M.2.2.2.2.1) (hsl : slots + M1.2.2.2.2.2 ≤ R.slots + M.2.2.2.2.2) : mid' = mid ∧ (am_KK D cs sa fm b0 xs Ls p l e R s m args below meth c Qw mid cells slots M ad L (pc') (ls') (st') (M1) → W p l e R s m args below meth c H locs cells slots Qw (F0 m pc lsC ((st).map (am_cv sa fm ad)))) := by
  simp only [am_ckB, am_ckX, am_ln, Bool.and_eq_true, Bool.or_eq_true, decide_eq_true_eq, Nat.beq_eq, Nat.ble_eq] at hv
  obtain ⟨⟨hd, rfl⟩, -⟩ := hv
  have hd := of_decide_eq_true hd
  obtain ⟨x, y, t, rfl, hf⟩ := am_i2_s hf
  cases hf
  exact ⟨rfl, fun K => sd_iand hd Z K⟩
theorem dp_ior {D : va_G} {cs : Nat → ClassId} {sa : Nat → Nat → Nat} {fm : Option Nat} {b0 : Nat} {xs : Nat → Int32} {Ls : Nat} {p : Program} {l : Launch} {e : Env} {R : Room} {s : State} {m : MethodId} {args : Array Value} {below : List Frame} {meth : Method} {c : Code} {Qw : State → Prop} {H : Heap} {locs : List Loc} {lsC : Array Slot} {cells slots : Nat} {ad : Nat → Nat → Nat} {L : List (Nat × Nat)} {mid pc : Nat} {ls : List (Option am_V)} {M : am_M} {st st' : List am_V} {b' : Bool} {mid' pc' nx a b ci w : Nat} {ls' : List (Option am_V)} {M1 : am_M} {k : Int32} {sw : List (Int32 × Nat)}  (hv : am_ckB mid pc (.ior, nx, a, b, ci, w, k, sw) = true) (hf : am_insO mid pc ls st M (.ior) nx a b ci k sw = some (.inl (b', (mid', pc', ls', st'), M1))) (Z : am_Ho D cs sa fm b0 xs Ls p l e R s m args below meth c H locs lsC cells slots ad L mid ls (st) M) (hcl : cells + M1.2.2.2.2.1 ≤ R.cells + M.2.2.2.2.1) (hsl : slots + M1.2.2.2.2.2 ≤ R.slots + M.2.2.2.2.2) : mid' = mid ∧ (am_KK D cs sa fm b0 xs Ls p l e R s m args below meth c Qw mid cells slots M ad L (pc') (ls') (st') (M1) → W p l e R s m args below meth c H locs cells slots Qw (F0 m pc lsC ((st).map (am_cv sa fm ad)))) := by
  simp only [am_ckB, am_ckX, am_ln, Bool.and_eq_true, Bool.or_eq_true, decide_eq_true_eq, Nat.beq_eq, Nat.ble_eq] at hv
  obtain ⟨⟨hd, rfl⟩, -⟩ := hv
  have hd := of_decide_eq_true hd
  obtain ⟨x, y, t, rfl, hf⟩ := am_i2_s hf
  cases hf
  exact ⟨rfl, fun K => sd_ior hd Z K⟩
theorem dp_ishl {D : va_G} {cs : Nat → ClassId} {sa : Nat → Nat → Nat} {fm : Option Nat} {b0 : Nat} {xs : Nat → Int32} {Ls : Nat} {p : Program} {l : Launch} {e : Env} {R : Room} {s : State} {m : MethodId} {args : Array Value} {below : List Frame} {meth : Method} {c : Code} {Qw : State → Prop} {H : Heap} {locs : List Loc} {lsC : Array Slot} {cells slots : Nat} {ad : Nat → Nat → Nat} {L : List (Nat × Nat)} {mid pc : Nat} {ls : List (Option am_V)} {M : am_M} {st st' : List am_V} {b' : Bool} {mid' pc' nx a b ci w : Nat} {ls' : List (Option am_V)} {M1 : am_M} {k : Int32} {sw : List (Int32 × Nat)}  (hv : am_ckB mid pc (.ishl, nx, a, b, ci, w, k, sw) = true) (hf : am_insO mid pc ls st M (.ishl) nx a b ci k sw = some (.inl (b', (mid', pc', ls', st'), M1))) (Z : am_Ho D cs sa fm b0 xs Ls p l e R s m args below meth c H locs lsC cells slots ad L mid ls (st) M) (hcl : cells + M1.2.2.2.2.1 ≤ R.cells + M.2.2.2.2.1) (hsl : slots + M1.2.2.2.2.2 ≤ R.slots + M.2.2.2.2.2) : mid' = mid ∧ (am_KK D cs sa fm b0 xs Ls p l e R s m args below meth c Qw mid cells slots M ad L (pc') (ls') (st') (M1) → W p l e R s m args below meth c H locs cells slots Qw (F0 m pc lsC ((st).map (am_cv sa fm ad)))) := by
  simp only [am_ckB, am_ckX, am_ln, Bool.and_eq_true, Bool.or_eq_true, decide_eq_true_eq, Nat.beq_eq, Nat.ble_eq] at hv
  obtain ⟨⟨hd, rfl⟩, -⟩ := hv
  have hd := of_decide_eq_true hd
  obtain ⟨x, y, t, rfl, hf⟩ := am_i2_s hf
  cases hf
  exact ⟨rfl, fun K => sd_ishl hd Z K⟩
theorem dp_ishr {D : va_G} {cs : Nat → ClassId} {sa : Nat → Nat → Nat} {fm : Option Nat} {b0 : Nat} {xs : Nat → Int32} {Ls : Nat} {p : Program} {l : Launch} {e : Env} {R : Room} {s : State} {m : MethodId} {args : Array Value} {below : List Frame} {meth : Method} {c : Code} {Qw : State → Prop} {H : Heap} {locs : List Loc} {lsC : Array Slot} {cells slots : Nat} {ad : Nat → Nat → Nat} {L : List (Nat × Nat)} {mid pc : Nat} {ls : List (Option am_V)} {M : am_M} {st st' : List am_V} {b' : Bool} {mid' pc' nx a b ci w : Nat} {ls' : List (Option am_V)} {M1 : am_M} {k : Int32} {sw : List (Int32 × Nat)}  (hv : am_ckB mid pc (.ishr, nx, a, b, ci, w, k, sw) = true) (hf : am_insO mid pc ls st M (.ishr) nx a b ci k sw = some (.inl (b', (mid', pc', ls', st'), M1))) (Z : am_Ho D cs sa fm b0 xs Ls p l e R s m args below meth c H locs lsC cells slots ad L mid ls (st) M) (hcl : cells + M1.2.2.2.2.1 ≤ R.cells + M.2.2.2.2.1) (hsl : slots + M1.2.2.2.2.2 ≤ R.slots + M.2.2.2.2.2) : mid' = mid ∧ (am_KK D cs sa fm b0 xs Ls p l e R s m args below meth c Qw mid cells slots M ad L (pc') (ls') (st') (M1) → W p l e R s m args below meth c H locs cells slots Qw (F0 m pc lsC ((st).map (am_cv sa fm ad)))) := by
  simp only [am_ckB, am_ckX, am_ln, Bool.and_eq_true, Bool.or_eq_true, decide_eq_true_eq, Nat.beq_eq, Nat.ble_eq] at hv
  obtain ⟨⟨hd, rfl⟩, -⟩ := hv
  have hd := of_decide_eq_true hd
  obtain ⟨x, y, t, rfl, hf⟩ := am_i2_s hf
  cases hf
  exact ⟨rfl, fun K => sd_ishr hd Z K⟩
theorem dp_iushr {D : va_G} {cs : Nat → ClassId} {sa : Nat → Nat → Nat} {fm : Option Nat} {b0 : Nat} {xs : Nat → Int32} {Ls : Nat} {p : Program} {l : Launch} {e : Env} {R : Room} {s : State} {m : MethodId} {args : Array Value} {below : List Frame} {meth : Method} {c : Code} {Qw : State → Prop} {H : Heap} {locs : List Loc} {lsC : Array Slot} {cells slots : Nat} {ad : Nat → Nat → Nat} {L : List (Nat × Nat)} {mid pc : Nat} {ls : List (Option am_V)} {M : am_M} {st st' : List am_V} {b' : Bool} {mid' pc' nx a b ci w : Nat} {ls' : List (Option am_V)} {M1 : am_M} {k : Int32} {sw : List (Int32 × Nat)}  (hv : am_ckB mid pc (.iushr, nx, a, b, ci, w, k, sw) = true) (hf : am_insO mid pc ls st M (.iushr) nx a b ci k sw = some (.inl (b', (mid', pc', ls', st'), M1))) (Z : am_Ho D cs sa fm b0 xs Ls p l e R s m args below meth c H locs lsC cells slots ad L mid ls (st) M) (hcl : cells + M1.2.2.2.2.1 ≤ R.cells + M.2.2.2.2.1) (hsl : slots + M1.2.2.2.2.2 ≤ R.slots + M.2.2.2.2.2) : mid' = mid ∧ (am_KK D cs sa fm b0 xs Ls p l e R s m args below meth c Qw mid cells slots M ad L (pc') (ls') (st') (M1) → W p l e R s m args below meth c H locs cells slots Qw (F0 m pc lsC ((st).map (am_cv sa fm ad)))) := by
  simp only [am_ckB, am_ckX, am_ln, Bool.and_eq_true, Bool.or_eq_true, decide_eq_true_eq, Nat.beq_eq, Nat.ble_eq] at hv
  obtain ⟨⟨hd, rfl⟩, -⟩ := hv
  have hd := of_decide_eq_true hd
  obtain ⟨x, y, t, rfl, hf⟩ := am_i2_s hf
  cases hf
  exact ⟨rfl, fun K => sd_iushr hd Z K⟩
theorem dp_idiv {D : va_G} {cs : Nat → ClassId} {sa : Nat → Nat → Nat} {fm : Option Nat} {b0 : Nat} {xs : Nat → Int32} {Ls : Nat} {p : Program} {l : Launch} {e : Env} {R : Room} {s : State} {m : MethodId} {args : Array Value} {below : List Frame} {meth : Method} {c : Code} {Qw : State → Prop} {H : Heap} {locs : List Loc} {lsC : Array Slot} {cells slots : Nat} {ad : Nat → Nat → Nat} {L : List (Nat × Nat)} {mid pc : Nat} {ls : List (Option am_V)} {M : am_M} {st st' : List am_V} {b' : Bool} {mid' pc' nx a b ci w : Nat} {ls' : List (Option am_V)} {M1 : am_M} {k : Int32} {sw : List (Int32 × Nat)}  (hv : am_ckB mid pc (.idiv, nx, a, b, ci, w, k, sw) = true) (hf : am_insO mid pc ls st M (.idiv) nx a b ci k sw = some (.inl (b', (mid', pc', ls', st'), M1))) (Z : am_Ho D cs sa fm b0 xs Ls p l e R s m args below meth c H locs lsC cells slots ad L mid ls (st) M) (hcl : cells + M1.2.2.2.2.1 ≤ R.cells + M.2.2.2.2.1) (hsl : slots + M1.2.2.2.2.2 ≤ R.slots + M.2.2.2.2.2) : mid' = mid ∧ (am_KK D cs sa fm b0 xs Ls p l e R s m args below meth c Qw mid cells slots M ad L (pc') (ls') (st') (M1) → W p l e R s m args below meth c H locs cells slots Qw (F0 m pc lsC ((st).map (am_cv sa fm ad)))) := by
  simp only [am_ckB, am_ckX, am_ln, Bool.and_eq_true, Bool.or_eq_true, decide_eq_true_eq, Nat.beq_eq, Nat.ble_eq] at hv
  obtain ⟨⟨hd, rfl⟩, -⟩ := hv
  have hd := of_decide_eq_true hd
  obtain ⟨x, y, t, rfl, hf⟩ := am_i2_s hf
  obtain ⟨hy, hf⟩ := am_if_s hf
  cases hf
  exact ⟨rfl, fun K => sd_idiv hd hy Z K⟩
theorem dp_irem {D : va_G} {cs : Nat → ClassId} {sa : Nat → Nat → Nat} {fm : Option Nat} {b0 : Nat} {xs : Nat → Int32} {Ls : Nat} {p : Program} {l : Launch} {e : Env} {R : Room} {s : State} {m : MethodId} {args : Array Value} {below : List Frame} {meth : Method} {c : Code} {Qw : State → Prop} {H : Heap} {locs : List Loc} {lsC : Array Slot} {cells slots : Nat} {ad : Nat → Nat → Nat} {L : List (Nat × Nat)} {mid pc : Nat} {ls : List (Option am_V)} {M : am_M} {st st' : List am_V} {b' : Bool} {mid' pc' nx a b ci w : Nat} {ls' : List (Option am_V)} {M1 : am_M} {k : Int32} {sw : List (Int32 × Nat)}  (hv : am_ckB mid pc (.irem, nx, a, b, ci, w, k, sw) = true) (hf : am_insO mid pc ls st M (.irem) nx a b ci k sw = some (.inl (b', (mid', pc', ls', st'), M1))) (Z : am_Ho D cs sa fm b0 xs Ls p l e R s m args below meth c H locs lsC cells slots ad L mid ls (st) M) (hcl : cells + M1.2.2.2.2.1 ≤ R.cells + M.2.2.2.2.1) (hsl : slots + M1.2.2.2.2.2 ≤ R.slots + M.2.2.2.2.2) : mid' = mid ∧ (am_KK D cs sa fm b0 xs Ls p l e R s m args below meth c Qw mid cells slots M ad L (pc') (ls') (st') (M1) → W p l e R s m args below meth c H locs cells slots Qw (F0 m pc lsC ((st).map (am_cv sa fm ad)))) := by
  simp only [am_ckB, am_ckX, am_ln, Bool.and_eq_true, Bool.or_eq_true, decide_eq_true_eq, Nat.beq_eq, Nat.ble_eq] at hv
  obtain ⟨⟨hd, rfl⟩, -⟩ := hv
  have hd := of_decide_eq_true hd
  obtain ⟨x, y, t, rfl, hf⟩ := am_i2_s hf
  obtain ⟨hy, hf⟩ := am_if_s hf
  cases hf
  exact ⟨rfl, fun K => sd_irem hd hy Z K⟩
theorem dp_ineg {D : va_G} {cs : Nat → ClassId} {sa : Nat → Nat → Nat} {fm : Option Nat} {b0 : Nat} {xs : Nat → Int32} {Ls : Nat} {p : Program} {l : Launch} {e : Env} {R : Room} {s : State} {m : MethodId} {args : Array Value} {below : List Frame} {meth : Method} {c : Code} {Qw : State → Prop} {H : Heap} {locs : List Loc} {lsC : Array Slot} {cells slots : Nat} {ad : Nat → Nat → Nat} {L : List (Nat × Nat)} {mid pc : Nat} {ls : List (Option am_V)} {M : am_M} {st st' : List am_V} {b' : Bool} {mid' pc' nx a b ci w : Nat} {ls' : List (Option am_V)} {M1 : am_M} {k : Int32} {sw : List (Int32 × Nat)}  (hv : am_ckB mid pc (.ineg, nx, a, b, ci, w, k, sw) = true) (hf : am_insO mid pc ls st M (.ineg) nx a b ci k sw = some (.inl (b', (mid', pc', ls', st'), M1))) (Z : am_Ho D cs sa fm b0 xs Ls p l e R s m args below meth c H locs lsC cells slots ad L mid ls (st) M) (hcl : cells + M1.2.2.2.2.1 ≤ R.cells + M.2.2.2.2.1) (hsl : slots + M1.2.2.2.2.2 ≤ R.slots + M.2.2.2.2.2) : mid' = mid ∧ (am_KK D cs sa fm b0 xs Ls p l e R s m args below meth c Qw mid cells slots M ad L (pc') (ls') (st') (M1) → W p l e R s m args below meth c H locs cells slots Qw (F0 m pc lsC ((st).map (am_cv sa fm ad)))) := by
  simp only [am_ckB, am_ckX, am_ln, Bool.and_eq_true, Bool.or_eq_true, decide_eq_true_eq, Nat.beq_eq, Nat.ble_eq] at hv
  obtain ⟨⟨hd, rfl⟩, -⟩ := hv
  have hd := of_decide_eq_true hd
  obtain ⟨x, t, rfl, hf⟩ := am_i1_s hf
  cases hf
  exact ⟨rfl, fun K => sd_ineg hd Z K⟩
theorem dp_i2s {D : va_G} {cs : Nat → ClassId} {sa : Nat → Nat → Nat} {fm : Option Nat} {b0 : Nat} {xs : Nat → Int32} {Ls : Nat} {p : Program} {l : Launch} {e : Env} {R : Room} {s : State} {m : MethodId} {args : Array Value} {below : List Frame} {meth : Method} {c : Code} {Qw : State → Prop} {H : Heap} {locs : List Loc} {lsC : Array Slot} {cells slots : Nat} {ad : Nat → Nat → Nat} {L : List (Nat × Nat)} {mid pc : Nat} {ls : List (Option am_V)} {M : am_M} {st st' : List am_V} {b' : Bool} {mid' pc' nx a b ci w : Nat} {ls' : List (Option am_V)} {M1 : am_M} {k : Int32} {sw : List (Int32 × Nat)}  (hv : am_ckB mid pc (.i2s, nx, a, b, ci, w, k, sw) = true) (hf : am_insO mid pc ls st M (.i2s) nx a b ci k sw = some (.inl (b', (mid', pc', ls', st'), M1))) (Z : am_Ho D cs sa fm b0 xs Ls p l e R s m args below meth c H locs lsC cells slots ad L mid ls (st) M) (hcl : cells + M1.2.2.2.2.1 ≤ R.cells + M.2.2.2.2.1) (hsl : slots + M1.2.2.2.2.2 ≤ R.slots + M.2.2.2.2.2) : mid' = mid ∧ (am_KK D cs sa fm b0 xs Ls p l e R s m args below meth c Qw mid cells slots M ad L (pc') (ls') (st') (M1) → W p l e R s m args below meth c H locs cells slots Qw (F0 m pc lsC ((st).map (am_cv sa fm ad)))) := by
  simp only [am_ckB, am_ckX, am_ln, Bool.and_eq_true, Bool.or_eq_true, decide_eq_true_eq, Nat.beq_eq, Nat.ble_eq] at hv
  obtain ⟨⟨hd, rfl⟩, -⟩ := hv
  have hd := of_decide_eq_true hd
  obtain ⟨x, t, rfl, hf⟩ := am_i1_s hf
  cases hf
  exact ⟨rfl, fun K => sd_i2s hd Z K⟩
theorem dp_i2c {D : va_G} {cs : Nat → ClassId} {sa : Nat → Nat → Nat} {fm : Option Nat} {b0 : Nat} {xs : Nat → Int32} {Ls : Nat} {p : Program} {l : Launch} {e : Env} {R : Room} {s : State} {m : MethodId} {args : Array Value} {below : List Frame} {meth : Method} {c : Code} {Qw : State → Prop} {H : Heap} {locs : List Loc} {lsC : Array Slot} {cells slots : Nat} {ad : Nat → Nat → Nat} {L : List (Nat × Nat)} {mid pc : Nat} {ls : List (Option am_V)} {M : am_M} {st st' : List am_V} {b' : Bool} {mid' pc' nx a b ci w : Nat} {ls' : List (Option am_V)} {M1 : am_M} {k : Int32} {sw : List (Int32 × Nat)}  (hv : am_ckB mid pc (.i2c, nx, a, b, ci, w, k, sw) = true) (hf : am_insO mid pc ls st M (.i2c) nx a b ci k sw = some (.inl (b', (mid', pc', ls', st'), M1))) (Z : am_Ho D cs sa fm b0 xs Ls p l e R s m args below meth c H locs lsC cells slots ad L mid ls (st) M) (hcl : cells + M1.2.2.2.2.1 ≤ R.cells + M.2.2.2.2.1) (hsl : slots + M1.2.2.2.2.2 ≤ R.slots + M.2.2.2.2.2) : mid' = mid ∧ (am_KK D cs sa fm b0 xs Ls p l e R s m args below meth c Qw mid cells slots M ad L (pc') (ls') (st') (M1) → W p l e R s m args below meth c H locs cells slots Qw (F0 m pc lsC ((st).map (am_cv sa fm ad)))) := by
  simp only [am_ckB, am_ckX, am_ln, Bool.and_eq_true, Bool.or_eq_true, decide_eq_true_eq, Nat.beq_eq, Nat.ble_eq] at hv
  obtain ⟨⟨hd, rfl⟩, -⟩ := hv
  have hd := of_decide_eq_true hd
  obtain ⟨x, t, rfl, hf⟩ := am_i1_s hf
  cases hf
  exact ⟨rfl, fun K => sd_i2c hd Z K⟩
theorem dp_i2b {D : va_G} {cs : Nat → ClassId} {sa : Nat → Nat → Nat} {fm : Option Nat} {b0 : Nat} {xs : Nat → Int32} {Ls : Nat} {p : Program} {l : Launch} {e : Env} {R : Room} {s : State} {m : MethodId} {args : Array Value} {below : List Frame} {meth : Method} {c : Code} {Qw : State → Prop} {H : Heap} {locs : List Loc} {lsC : Array Slot} {cells slots : Nat} {ad : Nat → Nat → Nat} {L : List (Nat × Nat)} {mid pc : Nat} {ls : List (Option am_V)} {M : am_M} {st st' : List am_V} {b' : Bool} {mid' pc' nx a b ci w : Nat} {ls' : List (Option am_V)} {M1 : am_M} {k : Int32} {sw : List (Int32 × Nat)}  (hv : am_ckB mid pc (.i2b, nx, a, b, ci, w, k, sw) = true) (hf : am_insO mid pc ls st M (.i2b) nx a b ci k sw = some (.inl (b', (mid', pc', ls', st'), M1))) (Z : am_Ho D cs sa fm b0 xs Ls p l e R s m args below meth c H locs lsC cells slots ad L mid ls (st) M) (hcl : cells + M1.2.2.2.2.1 ≤ R.cells + M.2.2.2.2.1) (hsl : slots + M1.2.2.2.2.2 ≤ R.slots + M.2.2.2.2.2) : mid' = mid ∧ (am_KK D cs sa fm b0 xs Ls p l e R s m args below meth c Qw mid cells slots M ad L (pc') (ls') (st') (M1) → W p l e R s m args below meth c H locs cells slots Qw (F0 m pc lsC ((st).map (am_cv sa fm ad)))) := by
  simp only [am_ckB, am_ckX, am_ln, Bool.and_eq_true, Bool.or_eq_true, decide_eq_true_eq, Nat.beq_eq, Nat.ble_eq] at hv
  obtain ⟨⟨hd, rfl⟩, -⟩ := hv
  have hd := of_decide_eq_true hd
  obtain ⟨x, t, rfl, hf⟩ := am_i1_s hf
  cases hf
  exact ⟨rfl, fun K => sd_i2b hd Z K⟩
theorem dp_i2l {D : va_G} {cs : Nat → ClassId} {sa : Nat → Nat → Nat} {fm : Option Nat} {b0 : Nat} {xs : Nat → Int32} {Ls : Nat} {p : Program} {l : Launch} {e : Env} {R : Room} {s : State} {m : MethodId} {args : Array Value} {below : List Frame} {meth : Method} {c : Code} {Qw : State → Prop} {H : Heap} {locs : List Loc} {lsC : Array Slot} {cells slots : Nat} {ad : Nat → Nat → Nat} {L : List (Nat × Nat)} {mid pc : Nat} {ls : List (Option am_V)} {M : am_M} {st st' : List am_V} {b' : Bool} {mid' pc' nx a b ci w : Nat} {ls' : List (Option am_V)} {M1 : am_M} {k : Int32} {sw : List (Int32 × Nat)}  (hv : am_ckB mid pc (.i2l, nx, a, b, ci, w, k, sw) = true) (hf : am_insO mid pc ls st M (.i2l) nx a b ci k sw = some (.inl (b', (mid', pc', ls', st'), M1))) (Z : am_Ho D cs sa fm b0 xs Ls p l e R s m args below meth c H locs lsC cells slots ad L mid ls (st) M) (hcl : cells + M1.2.2.2.2.1 ≤ R.cells + M.2.2.2.2.1) (hsl : slots + M1.2.2.2.2.2 ≤ R.slots + M.2.2.2.2.2) : mid' = mid ∧ (am_KK D cs sa fm b0 xs Ls p l e R s m args below meth c Qw mid cells slots M ad L (pc') (ls') (st') (M1) → W p l e R s m args below meth c H locs cells slots Qw (F0 m pc lsC ((st).map (am_cv sa fm ad)))) := by
  simp only [am_ckB, am_ckX, am_ln, Bool.and_eq_true, Bool.or_eq_true, decide_eq_true_eq, Nat.beq_eq, Nat.ble_eq] at hv
  obtain ⟨⟨hd, rfl⟩, -⟩ := hv
  have hd := of_decide_eq_true hd
  obtain ⟨x, t, rfl, hf⟩ := am_i1_s hf
  cases hf
  exact ⟨rfl, fun K => sd_i2l hd Z K⟩
theorem dp_pop {D : va_G} {cs : Nat → ClassId} {sa : Nat → Nat → Nat} {fm : Option Nat} {b0 : Nat} {xs : Nat → Int32} {Ls : Nat} {p : Program} {l : Launch} {e : Env} {R : Room} {s : State} {m : MethodId} {args : Array Value} {below : List Frame} {meth : Method} {c : Code} {Qw : State → Prop} {H : Heap} {locs : List Loc} {lsC : Array Slot} {cells slots : Nat} {ad : Nat → Nat → Nat} {L : List (Nat × Nat)} {mid pc : Nat} {ls : List (Option am_V)} {M : am_M} {st st' : List am_V} {b' : Bool} {mid' pc' nx a b ci w : Nat} {ls' : List (Option am_V)} {M1 : am_M} {k : Int32} {sw : List (Int32 × Nat)}  (hv : am_ckB mid pc (.pop, nx, a, b, ci, w, k, sw) = true) (hf : am_insO mid pc ls st M (.pop) nx a b ci k sw = some (.inl (b', (mid', pc', ls', st'), M1))) (Z : am_Ho D cs sa fm b0 xs Ls p l e R s m args below meth c H locs lsC cells slots ad L mid ls (st) M) (hcl : cells + M1.2.2.2.2.1 ≤ R.cells + M.2.2.2.2.1) (hsl : slots + M1.2.2.2.2.2 ≤ R.slots + M.2.2.2.2.2) : mid' = mid ∧ (am_KK D cs sa fm b0 xs Ls p l e R s m args below meth c Qw mid cells slots M ad L (pc') (ls') (st') (M1) → W p l e R s m args below meth c H locs cells slots Qw (F0 m pc lsC ((st).map (am_cv sa fm ad)))) := by
  simp only [am_ckB, am_ckX, am_ln, Bool.and_eq_true, Bool.or_eq_true, decide_eq_true_eq, Nat.beq_eq, Nat.ble_eq] at hv
  obtain ⟨⟨hd, rfl⟩, -⟩ := hv
  have hd := of_decide_eq_true hd
  obtain ⟨x, t, rfl, hf⟩ := am_i1_s hf
  cases hf
  exact ⟨rfl, fun K => sd_pop hd Z K⟩
theorem dp_ladd {D : va_G} {cs : Nat → ClassId} {sa : Nat → Nat → Nat} {fm : Option Nat} {b0 : Nat} {xs : Nat → Int32} {Ls : Nat} {p : Program} {l : Launch} {e : Env} {R : Room} {s : State} {m : MethodId} {args : Array Value} {below : List Frame} {meth : Method} {c : Code} {Qw : State → Prop} {H : Heap} {locs : List Loc} {lsC : Array Slot} {cells slots : Nat} {ad : Nat → Nat → Nat} {L : List (Nat × Nat)} {mid pc : Nat} {ls : List (Option am_V)} {M : am_M} {st st' : List am_V} {b' : Bool} {mid' pc' nx a b ci w : Nat} {ls' : List (Option am_V)} {M1 : am_M} {k : Int32} {sw : List (Int32 × Nat)}  (hv : am_ckB mid pc (.ladd, nx, a, b, ci, w, k, sw) = true) (hf : am_insO mid pc ls st M (.ladd) nx a b ci k sw = some (.inl (b', (mid', pc', ls', st'), M1))) (Z : am_Ho D cs sa fm b0 xs Ls p l e R s m args below meth c H locs lsC cells slots ad L mid ls (st) M) (hcl : cells + M1.2.2.2.2.1 ≤ R.cells + M.2.2.2.2.1) (hsl : slots + M1.2.2.2.2.2 ≤ R.slots + M.2.2.2.2.2) : mid' = mid ∧ (am_KK D cs sa fm b0 xs Ls p l e R s m args below meth c Qw mid cells slots M ad L (pc') (ls') (st') (M1) → W p l e R s m args below meth c H locs cells slots Qw (F0 m pc lsC ((st).map (am_cv sa fm ad)))) := by
  simp only [am_ckB, am_ckX, am_ln, Bool.and_eq_true, Bool.or_eq_true, decide_eq_true_eq, Nat.beq_eq, Nat.ble_eq] at hv
  obtain ⟨⟨hd, rfl⟩, -⟩ := hv
  have hd := of_decide_eq_true hd
  obtain ⟨x, y, t, rfl, hf⟩ := am_l2_s hf
  cases hf
  exact ⟨rfl, fun K => sd_ladd hd Z K⟩
theorem dp_lcmp {D : va_G} {cs : Nat → ClassId} {sa : Nat → Nat → Nat} {fm : Option Nat} {b0 : Nat} {xs : Nat → Int32} {Ls : Nat} {p : Program} {l : Launch} {e : Env} {R : Room} {s : State} {m : MethodId} {args : Array Value} {below : List Frame} {meth : Method} {c : Code} {Qw : State → Prop} {H : Heap} {locs : List Loc} {lsC : Array Slot} {cells slots : Nat} {ad : Nat → Nat → Nat} {L : List (Nat × Nat)} {mid pc : Nat} {ls : List (Option am_V)} {M : am_M} {st st' : List am_V} {b' : Bool} {mid' pc' nx a b ci w : Nat} {ls' : List (Option am_V)} {M1 : am_M} {k : Int32} {sw : List (Int32 × Nat)}  (hv : am_ckB mid pc (.lcmp, nx, a, b, ci, w, k, sw) = true) (hf : am_insO mid pc ls st M (.lcmp) nx a b ci k sw = some (.inl (b', (mid', pc', ls', st'), M1))) (Z : am_Ho D cs sa fm b0 xs Ls p l e R s m args below meth c H locs lsC cells slots ad L mid ls (st) M) (hcl : cells + M1.2.2.2.2.1 ≤ R.cells + M.2.2.2.2.1) (hsl : slots + M1.2.2.2.2.2 ≤ R.slots + M.2.2.2.2.2) : mid' = mid ∧ (am_KK D cs sa fm b0 xs Ls p l e R s m args below meth c Qw mid cells slots M ad L (pc') (ls') (st') (M1) → W p l e R s m args below meth c H locs cells slots Qw (F0 m pc lsC ((st).map (am_cv sa fm ad)))) := by
  simp only [am_ckB, am_ckX, am_ln, Bool.and_eq_true, Bool.or_eq_true, decide_eq_true_eq, Nat.beq_eq, Nat.ble_eq] at hv
  obtain ⟨⟨hd, rfl⟩, -⟩ := hv
  have hd := of_decide_eq_true hd
  obtain ⟨x, y, t, rfl, hf⟩ := am_l2_s hf
  cases hf
  exact ⟨rfl, fun K => sd_lcmp hd Z K⟩
theorem dp_dup {D : va_G} {cs : Nat → ClassId} {sa : Nat → Nat → Nat} {fm : Option Nat} {b0 : Nat} {xs : Nat → Int32} {Ls : Nat} {p : Program} {l : Launch} {e : Env} {R : Room} {s : State} {m : MethodId} {args : Array Value} {below : List Frame} {meth : Method} {c : Code} {Qw : State → Prop} {H : Heap} {locs : List Loc} {lsC : Array Slot} {cells slots : Nat} {ad : Nat → Nat → Nat} {L : List (Nat × Nat)} {mid pc : Nat} {ls : List (Option am_V)} {M : am_M} {st st' : List am_V} {b' : Bool} {mid' pc' nx a b ci w : Nat} {ls' : List (Option am_V)} {M1 : am_M} {k : Int32} {sw : List (Int32 × Nat)}  (hv : am_ckB mid pc (.dup, nx, a, b, ci, w, k, sw) = true) (hf : am_insO mid pc ls st M (.dup) nx a b ci k sw = some (.inl (b', (mid', pc', ls', st'), M1))) (Z : am_Ho D cs sa fm b0 xs Ls p l e R s m args below meth c H locs lsC cells slots ad L mid ls (st) M) (hcl : cells + M1.2.2.2.2.1 ≤ R.cells + M.2.2.2.2.1) (hsl : slots + M1.2.2.2.2.2 ≤ R.slots + M.2.2.2.2.2) : mid' = mid ∧ (am_KK D cs sa fm b0 xs Ls p l e R s m args below meth c Qw mid cells slots M ad L (pc') (ls') (st') (M1) → W p l e R s m args below meth c H locs cells slots Qw (F0 m pc lsC ((st).map (am_cv sa fm ad)))) := by
  simp only [am_ckB, am_ckX, am_ln, Bool.and_eq_true, Bool.or_eq_true, decide_eq_true_eq, Nat.beq_eq, Nat.ble_eq] at hv
  obtain ⟨⟨hd, rfl⟩, -⟩ := hv
  have hd := of_decide_eq_true hd
  obtain ⟨g, q, t, rfl, hf⟩ := am_r1_s hf
  cases hf
  exact ⟨rfl, fun K => sd_dup hd Z K⟩
theorem dp_dup2 {D : va_G} {cs : Nat → ClassId} {sa : Nat → Nat → Nat} {fm : Option Nat} {b0 : Nat} {xs : Nat → Int32} {Ls : Nat} {p : Program} {l : Launch} {e : Env} {R : Room} {s : State} {m : MethodId} {args : Array Value} {below : List Frame} {meth : Method} {c : Code} {Qw : State → Prop} {H : Heap} {locs : List Loc} {lsC : Array Slot} {cells slots : Nat} {ad : Nat → Nat → Nat} {L : List (Nat × Nat)} {mid pc : Nat} {ls : List (Option am_V)} {M : am_M} {st st' : List am_V} {b' : Bool} {mid' pc' nx a b ci w : Nat} {ls' : List (Option am_V)} {M1 : am_M} {k : Int32} {sw : List (Int32 × Nat)}  (hv : am_ckB mid pc (.dup2, nx, a, b, ci, w, k, sw) = true) (hf : am_insO mid pc ls st M (.dup2) nx a b ci k sw = some (.inl (b', (mid', pc', ls', st'), M1))) (Z : am_Ho D cs sa fm b0 xs Ls p l e R s m args below meth c H locs lsC cells slots ad L mid ls (st) M) (hcl : cells + M1.2.2.2.2.1 ≤ R.cells + M.2.2.2.2.1) (hsl : slots + M1.2.2.2.2.2 ≤ R.slots + M.2.2.2.2.2) : mid' = mid ∧ (am_KK D cs sa fm b0 xs Ls p l e R s m args below meth c Qw mid cells slots M ad L (pc') (ls') (st') (M1) → W p l e R s m args below meth c H locs cells slots Qw (F0 m pc lsC ((st).map (am_cv sa fm ad)))) := by
  simp only [am_ckB, am_ckX, am_ln, Bool.and_eq_true, Bool.or_eq_true, decide_eq_true_eq, Nat.beq_eq, Nat.ble_eq] at hv
  obtain ⟨⟨hd, rfl⟩, -⟩ := hv
  have hd := of_decide_eq_true hd
  obtain ⟨x, t, rfl, hf⟩ := am_i1_s hf
  obtain ⟨g, q, t, rfl, hf⟩ := am_r1_s hf
  cases hf
  exact ⟨rfl, fun K => sd_dup2 hd Z K⟩
theorem dp_goto {D : va_G} {cs : Nat → ClassId} {sa : Nat → Nat → Nat} {fm : Option Nat} {b0 : Nat} {xs : Nat → Int32} {Ls : Nat} {p : Program} {l : Launch} {e : Env} {R : Room} {s : State} {m : MethodId} {args : Array Value} {below : List Frame} {meth : Method} {c : Code} {Qw : State → Prop} {H : Heap} {locs : List Loc} {lsC : Array Slot} {cells slots : Nat} {ad : Nat → Nat → Nat} {L : List (Nat × Nat)} {mid pc : Nat} {ls : List (Option am_V)} {M : am_M} {st st' : List am_V} {b' : Bool} {mid' pc' nx a b ci w : Nat} {ls' : List (Option am_V)} {M1 : am_M} {k : Int32} {sw : List (Int32 × Nat)} {z : Int} (hv : am_ckB mid pc (.goto z, nx, a, b, ci, w, k, sw) = true) (hf : am_insO mid pc ls st M (.goto z) nx a b ci k sw = some (.inl (b', (mid', pc', ls', st'), M1))) (Z : am_Ho D cs sa fm b0 xs Ls p l e R s m args below meth c H locs lsC cells slots ad L mid ls (st) M) (hcl : cells + M1.2.2.2.2.1 ≤ R.cells + M.2.2.2.2.1) (hsl : slots + M1.2.2.2.2.2 ≤ R.slots + M.2.2.2.2.2) : mid' = mid ∧ (am_KK D cs sa fm b0 xs Ls p l e R s m args below meth c Qw mid cells slots M ad L (pc') (ls') (st') (M1) → W p l e R s m args below meth c H locs cells slots Qw (F0 m pc lsC ((st).map (am_cv sa fm ad)))) := by
  simp only [am_ckB, am_ckX, am_ln, Bool.and_eq_true, Bool.or_eq_true, decide_eq_true_eq, Nat.beq_eq, Nat.ble_eq] at hv
  obtain ⟨⟨hd, rfl⟩, ha⟩ := hv
  have hd := of_decide_eq_true hd
  have hf : cond (Nat.ble a pc) _ _ = some _ := hf
  cases hj : Nat.ble a pc <;> rw [hj] at hf <;> cases hf <;> exact ⟨rfl, fun K => sd_goto hd ha Z K⟩
theorem dp_ifCond {D : va_G} {cs : Nat → ClassId} {sa : Nat → Nat → Nat} {fm : Option Nat} {b0 : Nat} {xs : Nat → Int32} {Ls : Nat} {p : Program} {l : Launch} {e : Env} {R : Room} {s : State} {m : MethodId} {args : Array Value} {below : List Frame} {meth : Method} {c : Code} {Qw : State → Prop} {H : Heap} {locs : List Loc} {lsC : Array Slot} {cells slots : Nat} {ad : Nat → Nat → Nat} {L : List (Nat × Nat)} {mid pc : Nat} {ls : List (Option am_V)} {M : am_M} {st st' : List am_V} {b' : Bool} {mid' pc' nx a b ci w : Nat} {ls' : List (Option am_V)} {M1 : am_M} {k : Int32} {sw : List (Int32 × Nat)} {cn : ClassFile.Cond} {z : Int} (hv : am_ckB mid pc (.ifCond cn z, nx, a, b, ci, w, k, sw) = true) (hf : am_insO mid pc ls st M (.ifCond cn z) nx a b ci k sw = some (.inl (b', (mid', pc', ls', st'), M1))) (Z : am_Ho D cs sa fm b0 xs Ls p l e R s m args below meth c H locs lsC cells slots ad L mid ls (st) M) (hcl : cells + M1.2.2.2.2.1 ≤ R.cells + M.2.2.2.2.1) (hsl : slots + M1.2.2.2.2.2 ≤ R.slots + M.2.2.2.2.2) : mid' = mid ∧ (am_KK D cs sa fm b0 xs Ls p l e R s m args below meth c Qw mid cells slots M ad L (pc') (ls') (st') (M1) → W p l e R s m args below meth c H locs cells slots Qw (F0 m pc lsC ((st).map (am_cv sa fm ad)))) := by
  simp only [am_ckB, am_ckX, am_ln, Bool.and_eq_true, Bool.or_eq_true, decide_eq_true_eq, Nat.beq_eq, Nat.ble_eq] at hv
  obtain ⟨⟨hd, rfl⟩, ha⟩ := hv
  have hd := of_decide_eq_true hd
  obtain ⟨x, t, rfl, hf⟩ := am_i1_s hf
  cases cn with
  | eq =>
    have hf : (if x = 0 then _ else _) = some _ := hf
    by_cases h : x = 0
    · rw [if_pos h] at hf; cases hj : Nat.ble a pc <;> rw [hj] at hf <;> cases hf <;> exact ⟨rfl, fun K => sd_ifCond_eq_t hd ha h Z K⟩
    · rw [if_neg h] at hf; cases hf; exact ⟨rfl, fun K => sd_ifCond_eq_f hd ha h Z K⟩
  | ne =>
    have hf : (if x = 0 then _ else _) = some _ := hf
    by_cases h : x = 0
    · rw [if_pos h] at hf; cases hf; exact ⟨rfl, fun K => sd_ifCond_ne_f hd ha h Z K⟩
    · rw [if_neg h] at hf; cases hj : Nat.ble a pc <;> rw [hj] at hf <;> cases hf <;> exact ⟨rfl, fun K => sd_ifCond_ne_t hd ha h Z K⟩
  | lt =>
    have hf : (if x < 0 then _ else _) = some _ := hf
    by_cases h : x < 0
    · rw [if_pos h] at hf; cases hj : Nat.ble a pc <;> rw [hj] at hf <;> cases hf <;> exact ⟨rfl, fun K => sd_ifCond_lt_t hd ha h Z K⟩
    · rw [if_neg h] at hf; cases hf; exact ⟨rfl, fun K => sd_ifCond_lt_f hd ha h Z K⟩
  | ge =>
    have hf : (if 0 ≤ x then _ else _) = some _ := hf
    by_cases h : 0 ≤ x
    · rw [if_pos h] at hf; cases hj : Nat.ble a pc <;> rw [hj] at hf <;> cases hf <;> exact ⟨rfl, fun K => sd_ifCond_ge_t hd ha h Z K⟩
    · rw [if_neg h] at hf; cases hf; exact ⟨rfl, fun K => sd_ifCond_ge_f hd ha h Z K⟩
  | gt =>
    have hf : (if 0 < x then _ else _) = some _ := hf
    by_cases h : 0 < x
    · rw [if_pos h] at hf; cases hj : Nat.ble a pc <;> rw [hj] at hf <;> cases hf <;> exact ⟨rfl, fun K => sd_ifCond_gt_t hd ha h Z K⟩
    · rw [if_neg h] at hf; cases hf; exact ⟨rfl, fun K => sd_ifCond_gt_f hd ha h Z K⟩
  | le =>
    have hf : (if x ≤ 0 then _ else _) = some _ := hf
    by_cases h : x ≤ 0
    · rw [if_pos h] at hf; cases hj : Nat.ble a pc <;> rw [hj] at hf <;> cases hf <;> exact ⟨rfl, fun K => sd_ifCond_le_t hd ha h Z K⟩
    · rw [if_neg h] at hf; cases hf; exact ⟨rfl, fun K => sd_ifCond_le_f hd ha h Z K⟩
theorem dp_if_icmp {D : va_G} {cs : Nat → ClassId} {sa : Nat → Nat → Nat} {fm : Option Nat} {b0 : Nat} {xs : Nat → Int32} {Ls : Nat} {p : Program} {l : Launch} {e : Env} {R : Room} {s : State} {m : MethodId} {args : Array Value} {below : List Frame} {meth : Method} {c : Code} {Qw : State → Prop} {H : Heap} {locs : List Loc} {lsC : Array Slot} {cells slots : Nat} {ad : Nat → Nat → Nat} {L : List (Nat × Nat)} {mid pc : Nat} {ls : List (Option am_V)} {M : am_M} {st st' : List am_V} {b' : Bool} {mid' pc' nx a b ci w : Nat} {ls' : List (Option am_V)} {M1 : am_M} {k : Int32} {sw : List (Int32 × Nat)} {cn : ClassFile.Cond} {z : Int} (hv : am_ckB mid pc (.if_icmp cn z, nx, a, b, ci, w, k, sw) = true) (hf : am_insO mid pc ls st M (.if_icmp cn z) nx a b ci k sw = some (.inl (b', (mid', pc', ls', st'), M1))) (Z : am_Ho D cs sa fm b0 xs Ls p l e R s m args below meth c H locs lsC cells slots ad L mid ls (st) M) (hcl : cells + M1.2.2.2.2.1 ≤ R.cells + M.2.2.2.2.1) (hsl : slots + M1.2.2.2.2.2 ≤ R.slots + M.2.2.2.2.2) : mid' = mid ∧ (am_KK D cs sa fm b0 xs Ls p l e R s m args below meth c Qw mid cells slots M ad L (pc') (ls') (st') (M1) → W p l e R s m args below meth c H locs cells slots Qw (F0 m pc lsC ((st).map (am_cv sa fm ad)))) := by
  simp only [am_ckB, am_ckX, am_ln, Bool.and_eq_true, Bool.or_eq_true, decide_eq_true_eq, Nat.beq_eq, Nat.ble_eq] at hv
  obtain ⟨⟨hd, rfl⟩, ha⟩ := hv
  have hd := of_decide_eq_true hd
  obtain ⟨x, y, t, rfl, hf⟩ := am_i2_s hf
  cases cn with
  | eq =>
    have hf : (if x = y then _ else _) = some _ := hf
    by_cases h : x = y
    · rw [if_pos h] at hf; cases hj : Nat.ble a pc <;> rw [hj] at hf <;> cases hf <;> exact ⟨rfl, fun K => sd_if_icmp_eq_t hd ha h Z K⟩
    · rw [if_neg h] at hf; cases hf; exact ⟨rfl, fun K => sd_if_icmp_eq_f hd ha h Z K⟩
  | ne =>
    have hf : (if x = y then _ else _) = some _ := hf
    by_cases h : x = y
    · rw [if_pos h] at hf; cases hf; exact ⟨rfl, fun K => sd_if_icmp_ne_f hd ha h Z K⟩
    · rw [if_neg h] at hf; cases hj : Nat.ble a pc <;> rw [hj] at hf <;> cases hf <;> exact ⟨rfl, fun K => sd_if_icmp_ne_t hd ha h Z K⟩
  | lt =>
    have hf : (if x < y then _ else _) = some _ := hf
    by_cases h : x < y
    · rw [if_pos h] at hf; cases hj : Nat.ble a pc <;> rw [hj] at hf <;> cases hf <;> exact ⟨rfl, fun K => sd_if_icmp_lt_t hd ha h Z K⟩
    · rw [if_neg h] at hf; cases hf; exact ⟨rfl, fun K => sd_if_icmp_lt_f hd ha h Z K⟩
  | ge =>
    have hf : (if y ≤ x then _ else _) = some _ := hf
    by_cases h : y ≤ x
    · rw [if_pos h] at hf; cases hj : Nat.ble a pc <;> rw [hj] at hf <;> cases hf <;> exact ⟨rfl, fun K => sd_if_icmp_ge_t hd ha h Z K⟩
    · rw [if_neg h] at hf; cases hf; exact ⟨rfl, fun K => sd_if_icmp_ge_f hd ha h Z K⟩
  | gt =>
    have hf : (if y < x then _ else _) = some _ := hf
    by_cases h : y < x
    · rw [if_pos h] at hf; cases hj : Nat.ble a pc <;> rw [hj] at hf <;> cases hf <;> exact ⟨rfl, fun K => sd_if_icmp_gt_t hd ha h Z K⟩
    · rw [if_neg h] at hf; cases hf; exact ⟨rfl, fun K => sd_if_icmp_gt_f hd ha h Z K⟩
  | le =>
    have hf : (if x ≤ y then _ else _) = some _ := hf
    by_cases h : x ≤ y
    · rw [if_pos h] at hf; cases hj : Nat.ble a pc <;> rw [hj] at hf <;> cases hf <;> exact ⟨rfl, fun K => sd_if_icmp_le_t hd ha h Z K⟩
    · rw [if_neg h] at hf; cases hf; exact ⟨rfl, fun K => sd_if_icmp_le_f hd ha h Z K⟩
theorem dp_ifnull {D : va_G} {cs : Nat → ClassId} {sa : Nat → Nat → Nat} {fm : Option Nat} {b0 : Nat} {xs : Nat → Int32} {Ls : Nat} {p : Program} {l : Launch} {e : Env} {R : Room} {s : State} {m : MethodId} {args : Array Value} {below : List Frame} {meth : Method} {c : Code} {Qw : State → Prop} {H : Heap} {locs : List Loc} {lsC : Array Slot} {cells slots : Nat} {ad : Nat → Nat → Nat} {L : List (Nat × Nat)} {mid pc : Nat} {ls : List (Option am_V)} {M : am_M} {st st' : List am_V} {b' : Bool} {mid' pc' nx a b ci w : Nat} {ls' : List (Option am_V)} {M1 : am_M} {k : Int32} {sw : List (Int32 × Nat)} {z : Int} (hv : am_ckB mid pc (.ifnull z, nx, a, b, ci, w, k, sw) = true) (hf : am_insO mid pc ls st M (.ifnull z) nx a b ci k sw = some (.inl (b', (mid', pc', ls', st'), M1))) (Z : am_Ho D cs sa fm b0 xs Ls p l e R s m args below meth c H locs lsC cells slots ad L mid ls (st) M) (hcl : cells + M1.2.2.2.2.1 ≤ R.cells + M.2.2.2.2.1) (hsl : slots + M1.2.2.2.2.2 ≤ R.slots + M.2.2.2.2.2) : mid' = mid ∧ (am_KK D cs sa fm b0 xs Ls p l e R s m args below meth c Qw mid cells slots M ad L (pc') (ls') (st') (M1) → W p l e R s m args below meth c H locs cells slots Qw (F0 m pc lsC ((st).map (am_cv sa fm ad)))) := by
  simp only [am_ckB, am_ckX, am_ln, Bool.and_eq_true, Bool.or_eq_true, decide_eq_true_eq, Nat.beq_eq, Nat.ble_eq] at hv
  obtain ⟨⟨hd, rfl⟩, ha⟩ := hv
  have hd := of_decide_eq_true hd
  obtain ⟨r, t, rfl, hf⟩ := am_q1_s hf
  rcases am_nl_s hf with ⟨rfl, hf⟩ | ⟨g, q, rfl, hg, hf⟩
  · cases hf; exact ⟨rfl, fun K => sd_ifnull_t hd ha Z K⟩
  · cases hf; exact ⟨rfl, fun K => sd_ifnull_f hd hg Z K⟩
theorem dp_ifnonnull {D : va_G} {cs : Nat → ClassId} {sa : Nat → Nat → Nat} {fm : Option Nat} {b0 : Nat} {xs : Nat → Int32} {Ls : Nat} {p : Program} {l : Launch} {e : Env} {R : Room} {s : State} {m : MethodId} {args : Array Value} {below : List Frame} {meth : Method} {c : Code} {Qw : State → Prop} {H : Heap} {locs : List Loc} {lsC : Array Slot} {cells slots : Nat} {ad : Nat → Nat → Nat} {L : List (Nat × Nat)} {mid pc : Nat} {ls : List (Option am_V)} {M : am_M} {st st' : List am_V} {b' : Bool} {mid' pc' nx a b ci w : Nat} {ls' : List (Option am_V)} {M1 : am_M} {k : Int32} {sw : List (Int32 × Nat)} {z : Int} (hv : am_ckB mid pc (.ifnonnull z, nx, a, b, ci, w, k, sw) = true) (hf : am_insO mid pc ls st M (.ifnonnull z) nx a b ci k sw = some (.inl (b', (mid', pc', ls', st'), M1))) (Z : am_Ho D cs sa fm b0 xs Ls p l e R s m args below meth c H locs lsC cells slots ad L mid ls (st) M) (hcl : cells + M1.2.2.2.2.1 ≤ R.cells + M.2.2.2.2.1) (hsl : slots + M1.2.2.2.2.2 ≤ R.slots + M.2.2.2.2.2) : mid' = mid ∧ (am_KK D cs sa fm b0 xs Ls p l e R s m args below meth c Qw mid cells slots M ad L (pc') (ls') (st') (M1) → W p l e R s m args below meth c H locs cells slots Qw (F0 m pc lsC ((st).map (am_cv sa fm ad)))) := by
  simp only [am_ckB, am_ckX, am_ln, Bool.and_eq_true, Bool.or_eq_true, decide_eq_true_eq, Nat.beq_eq, Nat.ble_eq] at hv
  obtain ⟨⟨hd, rfl⟩, ha⟩ := hv
  have hd := of_decide_eq_true hd
  obtain ⟨r, t, rfl, hf⟩ := am_q1_s hf
  rcases am_nl_s hf with ⟨rfl, hf⟩ | ⟨g, q, rfl, hg, hf⟩
  · cases hf; exact ⟨rfl, fun K => sd_ifnonnull_f hd Z K⟩
  · cases hf; exact ⟨rfl, fun K => sd_ifnonnull_t hd ha hg Z K⟩
theorem dp_tableswitch {D : va_G} {cs : Nat → ClassId} {sa : Nat → Nat → Nat} {fm : Option Nat} {b0 : Nat} {xs : Nat → Int32} {Ls : Nat} {p : Program} {l : Launch} {e : Env} {R : Room} {s : State} {m : MethodId} {args : Array Value} {below : List Frame} {meth : Method} {c : Code} {Qw : State → Prop} {H : Heap} {locs : List Loc} {lsC : Array Slot} {cells slots : Nat} {ad : Nat → Nat → Nat} {L : List (Nat × Nat)} {mid pc : Nat} {ls : List (Option am_V)} {M : am_M} {st st' : List am_V} {b' : Bool} {mid' pc' nx a b ci w : Nat} {ls' : List (Option am_V)} {M1 : am_M} {k : Int32} {sw : List (Int32 × Nat)} {dd lo hi : Int} {offs : Array Int} (hv : am_ckB mid pc (.tableswitch dd lo hi offs, nx, a, b, ci, w, k, sw) = true) (hf : am_insO mid pc ls st M (.tableswitch dd lo hi offs) nx a b ci k sw = some (.inl (b', (mid', pc', ls', st'), M1))) (Z : am_Ho D cs sa fm b0 xs Ls p l e R s m args below meth c H locs lsC cells slots ad L mid ls (st) M) (hcl : cells + M1.2.2.2.2.1 ≤ R.cells + M.2.2.2.2.1) (hsl : slots + M1.2.2.2.2.2 ≤ R.slots + M.2.2.2.2.2) : mid' = mid ∧ (am_KK D cs sa fm b0 xs Ls p l e R s m args below meth c Qw mid cells slots M ad L (pc') (ls') (st') (M1) → W p l e R s m args below meth c H locs cells slots Qw (F0 m pc lsC ((st).map (am_cv sa fm ad)))) := by
  simp only [am_ckB, am_ckX, am_ln, Bool.and_eq_true, Bool.or_eq_true, decide_eq_true_eq, Nat.beq_eq, Nat.ble_eq] at hv
  obtain ⟨hd, ⟨ha, hh⟩, hs⟩ := hv
  obtain ⟨x, t, rfl, hf⟩ := am_i1_s hf
  obtain ⟨⟨hx, hb, hml, hown, hts, hr, hlk, hin⟩, hS, hR, hW, hL, hT⟩ := id Z
  rcases am_swT_ok hs hf with ⟨h1, h2⟩ | ⟨oo, tg, h1, h2, h3, h4, h5⟩
  · cases h2
    exact ⟨rfl, fun K => lv_tableOut hx hb hd (by omega) ha (am_k0 Z K (am_ot hT))⟩
  · cases h4
    exact ⟨rfl, fun K => lv_tableIn hx hb hd h1 (by omega) (by rw [← Array.getElem?_toList]; exact h2) h3 (am_k0 Z K (am_ot hT))⟩
theorem dp_lookupswitch {D : va_G} {cs : Nat → ClassId} {sa : Nat → Nat → Nat} {fm : Option Nat} {b0 : Nat} {xs : Nat → Int32} {Ls : Nat} {p : Program} {l : Launch} {e : Env} {R : Room} {s : State} {m : MethodId} {args : Array Value} {below : List Frame} {meth : Method} {c : Code} {Qw : State → Prop} {H : Heap} {locs : List Loc} {lsC : Array Slot} {cells slots : Nat} {ad : Nat → Nat → Nat} {L : List (Nat × Nat)} {mid pc : Nat} {ls : List (Option am_V)} {M : am_M} {st st' : List am_V} {b' : Bool} {mid' pc' nx a b ci w : Nat} {ls' : List (Option am_V)} {M1 : am_M} {k : Int32} {sw : List (Int32 × Nat)} {dd : Int} {ps : Array (Int × Int)} (hv : am_ckB mid pc (.lookupswitch dd ps, nx, a, b, ci, w, k, sw) = true) (hf : am_insO mid pc ls st M (.lookupswitch dd ps) nx a b ci k sw = some (.inl (b', (mid', pc', ls', st'), M1))) (Z : am_Ho D cs sa fm b0 xs Ls p l e R s m args below meth c H locs lsC cells slots ad L mid ls (st) M) (hcl : cells + M1.2.2.2.2.1 ≤ R.cells + M.2.2.2.2.1) (hsl : slots + M1.2.2.2.2.2 ≤ R.slots + M.2.2.2.2.2) : mid' = mid ∧ (am_KK D cs sa fm b0 xs Ls p l e R s m args below meth c Qw mid cells slots M ad L (pc') (ls') (st') (M1) → W p l e R s m args below meth c H locs cells slots Qw (F0 m pc lsC ((st).map (am_cv sa fm ad)))) := by
  simp only [am_ckB, am_ckX, am_ln, Bool.and_eq_true, Bool.or_eq_true, decide_eq_true_eq, Nat.beq_eq, Nat.ble_eq] at hv
  obtain ⟨hd, ⟨ha, hh⟩, hs⟩ := hv
  obtain ⟨x, t, rfl, hf⟩ := am_i1_s hf
  obtain ⟨⟨hx, hb, hml, hown, hts, hr, hlk, hin⟩, hS, hR, hW, hL, hT⟩ := id Z
  obtain ⟨tg, h1, h2⟩ := am_swL_ok hs ha hf
  cases h2
  exact ⟨rfl, fun K => lv_lookup hx hb hd hh rfl h1 (am_k0 Z K (am_ot hT))⟩
theorem dp_getfield {D : va_G} {cs : Nat → ClassId} {sa : Nat → Nat → Nat} {fm : Option Nat} {b0 : Nat} {xs : Nat → Int32} {Ls : Nat} {p : Program} {l : Launch} {e : Env} {R : Room} {s : State} {m : MethodId} {args : Array Value} {below : List Frame} {meth : Method} {c : Code} {Qw : State → Prop} {H : Heap} {locs : List Loc} {lsC : Array Slot} {cells slots : Nat} {ad : Nat → Nat → Nat} {L : List (Nat × Nat)} {mid pc : Nat} {ls : List (Option am_V)} {M : am_M} {st st' : List am_V} {b' : Bool} {mid' pc' nx a b ci w : Nat} {ls' : List (Option am_V)} {M1 : am_M} {k : Int32} {sw : List (Int32 × Nat)} {n : Nat} (hv : am_ckB mid pc (.getfield n, nx, a, b, ci, w, k, sw) = true) (hf : am_insO mid pc ls st M (.getfield n) nx a b ci k sw = some (.inl (b', (mid', pc', ls', st'), M1))) (Z : am_Ho D cs sa fm b0 xs Ls p l e R s m args below meth c H locs lsC cells slots ad L mid ls (st) M) (hcl : cells + M1.2.2.2.2.1 ≤ R.cells + M.2.2.2.2.1) (hsl : slots + M1.2.2.2.2.2 ≤ R.slots + M.2.2.2.2.2) : mid' = mid ∧ (am_KK D cs sa fm b0 xs Ls p l e R s m args below meth c Qw mid cells slots M ad L (pc') (ls') (st') (M1) → W p l e R s m args below meth c H locs cells slots Qw (F0 m pc lsC ((st).map (am_cv sa fm ad)))) := by
  simp only [am_ckB, am_ckX, am_ln, Bool.and_eq_true, Bool.or_eq_true, decide_eq_true_eq, Nat.beq_eq, Nat.ble_eq] at hv
  obtain ⟨⟨hd, rfl⟩, hk⟩ := hv
  have hd := of_decide_eq_true hd
  obtain ⟨g, q, t, rfl, hf⟩ := am_r1_s hf
  obtain ⟨hg, hf⟩ := am_cnd_s hf
  simp only [Nat.beq_eq] at hg
  subst hg
  cases hb : Nat.beq g 100 with
  | true =>
    rw [hb] at hf hk
    have hg := Nat.eq_of_beq_eq_true hb
    subst hg
    simp only [cond_true, Bool.and_eq_true, Nat.ble_eq] at hk
    have hf : cond (Nat.beq a 0) _ _ = some _ := hf
    cases ha : Nat.beq a 0 with
    | true =>
      rw [ha] at hf
      have ha := Nat.eq_of_beq_eq_true ha
      subst ha
      cases hf
      exact ⟨rfl, fun K => sd_getfS hd hk.1 Z K⟩
    | false =>
      rw [ha] at hf
      have ha : a = 1 := by
        have h1 : ¬ a = 0 := fun z => by rw [z] at ha; cases ha
        omega
      subst ha
      cases hf
      exact ⟨rfl, fun K => sd_getfC hd hk.1 Z K⟩
  | false =>
    rw [hb] at hf hk
    simp only [cond_false, Bool.and_eq_true, Nat.ble_eq, beq_iff_eq] at hk
    obtain ⟨⟨⟨h1, h2⟩, h3⟩, h4⟩ := hk
    have hf : cond (Nat.beq b 1) _ _ = some _ := hf
    cases h5 : Nat.beq b 1 with
    | true =>
      rw [h5] at hf h4
      cases hf
      exact ⟨rfl, fun K => sd_getfR hd h1 h2 h3 (Nat.eq_of_beq_eq_true h4.symm) Z K⟩
    | false =>
      rw [h5] at hf h4
      cases hf
      exact ⟨rfl, fun K => sd_getfI hd h1 h2 h3 (fun z => by rw [z] at h4; cases h4) Z K⟩
theorem dp_putfield {D : va_G} {cs : Nat → ClassId} {sa : Nat → Nat → Nat} {fm : Option Nat} {b0 : Nat} {xs : Nat → Int32} {Ls : Nat} {p : Program} {l : Launch} {e : Env} {R : Room} {s : State} {m : MethodId} {args : Array Value} {below : List Frame} {meth : Method} {c : Code} {Qw : State → Prop} {H : Heap} {locs : List Loc} {lsC : Array Slot} {cells slots : Nat} {ad : Nat → Nat → Nat} {L : List (Nat × Nat)} {mid pc : Nat} {ls : List (Option am_V)} {M : am_M} {st st' : List am_V} {b' : Bool} {mid' pc' nx a b ci w : Nat} {ls' : List (Option am_V)} {M1 : am_M} {k : Int32} {sw : List (Int32 × Nat)} {n : Nat} (hv : am_ckB mid pc (.putfield n, nx, a, b, ci, w, k, sw) = true) (hf : am_insO mid pc ls st M (.putfield n) nx a b ci k sw = some (.inl (b', (mid', pc', ls', st'), M1))) (Z : am_Ho D cs sa fm b0 xs Ls p l e R s m args below meth c H locs lsC cells slots ad L mid ls (st) M) (hcl : cells + M1.2.2.2.2.1 ≤ R.cells + M.2.2.2.2.1) (hsl : slots + M1.2.2.2.2.2 ≤ R.slots + M.2.2.2.2.2) : mid' = mid ∧ (am_KK D cs sa fm b0 xs Ls p l e R s m args below meth c Qw mid cells slots M ad L (pc') (ls') (st') (M1) → W p l e R s m args below meth c H locs cells slots Qw (F0 m pc lsC ((st).map (am_cv sa fm ad)))) := by
  simp only [am_ckB, am_ckX, am_ln, Bool.and_eq_true, Bool.or_eq_true, decide_eq_true_eq, Nat.beq_eq, Nat.ble_eq] at hv
  obtain ⟨⟨hd, rfl⟩, ⟨⟨⟨h1, h2⟩, h3⟩, h4⟩, h5⟩ := hv
  have hd := of_decide_eq_true hd
  have h5 : (am_T ci a).2.2.2 = false ∨ (am_in mid = true ∧ (am_T ci a).1 = am_own mid) := by
    rcases h5 with h5 | h5
    · exact Or.inl (by simpa using h5)
    · exact Or.inr h5
  subst h4
  have hf : am_put none am_cC mid (pc + 3) ls st M a (am_fk ci a) ci = some (.inl (b', (mid', pc', ls', st'), M1)) := hf
  unfold am_put at hf
  split at hf
  · rename_i hz
    obtain ⟨x, t, rfl, hf⟩ := am_i1_s hf
    obtain ⟨g, q, t, rfl, hf⟩ := am_r1_s hf
    obtain ⟨hg, hf⟩ := am_cnd_s hf
    simp only [Nat.beq_eq] at hg
    subst hg
    cases hf
    exact ⟨rfl, fun K => sd_putI hd h1 h2 h3 h5 hz Z K⟩
  · rename_i hz
    obtain ⟨r, t, rfl, hf⟩ := am_q1_s hf
    obtain ⟨g, q, t, rfl, hf⟩ := am_r1_s hf
    obtain ⟨hg, hf⟩ := am_cnd_s hf
    simp only [Nat.beq_eq] at hg
    subst hg
    rcases am_nl_s hf with ⟨rfl, hf⟩ | ⟨g2, q2, rfl, hg2, hf⟩
    · cases hf
      exact ⟨rfl, fun K => sd_putR hd h1 h2 h3 h5 hz (fun z h => by cases h) Z K⟩
    · cases hf
      exact ⟨rfl, fun K => sd_putR hd h1 h2 h3 h5 hz (fun z h => by cases h; exact hg2) Z K⟩
  · rename_i hz
    obtain ⟨x, t, rfl, hf⟩ := am_i1_s hf
    obtain ⟨g, q, t, rfl, hf⟩ := am_r1_s hf
    obtain ⟨hg, hf⟩ := am_cnd_s hf
    simp only [Nat.beq_eq] at hg
    subst hg
    obtain ⟨h6, hf⟩ := am_ift_s hf
    cases hf
    exact ⟨rfl, fun K => sd_putZ hd h1 h2 h3 h5 hz h6 Z K⟩
  · cases hf
theorem dp_getstatic {D : va_G} {cs : Nat → ClassId} {sa : Nat → Nat → Nat} {fm : Option Nat} {b0 : Nat} {xs : Nat → Int32} {Ls : Nat} {p : Program} {l : Launch} {e : Env} {R : Room} {s : State} {m : MethodId} {args : Array Value} {below : List Frame} {meth : Method} {c : Code} {Qw : State → Prop} {H : Heap} {locs : List Loc} {lsC : Array Slot} {cells slots : Nat} {ad : Nat → Nat → Nat} {L : List (Nat × Nat)} {mid pc : Nat} {ls : List (Option am_V)} {M : am_M} {st st' : List am_V} {b' : Bool} {mid' pc' nx a b ci w : Nat} {ls' : List (Option am_V)} {M1 : am_M} {k : Int32} {sw : List (Int32 × Nat)} {n : Nat} (hv : am_ckB mid pc (.getstatic n, nx, a, b, ci, w, k, sw) = true) (hf : am_insO mid pc ls st M (.getstatic n) nx a b ci k sw = some (.inl (b', (mid', pc', ls', st'), M1))) (Z : am_Ho D cs sa fm b0 xs Ls p l e R s m args below meth c H locs lsC cells slots ad L mid ls (st) M) (hcl : cells + M1.2.2.2.2.1 ≤ R.cells + M.2.2.2.2.1) (hsl : slots + M1.2.2.2.2.2 ≤ R.slots + M.2.2.2.2.2) : mid' = mid ∧ (am_KK D cs sa fm b0 xs Ls p l e R s m args below meth c Qw mid cells slots M ad L (pc') (ls') (st') (M1) → W p l e R s m args below meth c H locs cells slots Qw (F0 m pc lsC ((st).map (am_cv sa fm ad)))) := by
  simp only [am_ckB, am_ckX, am_ln, Bool.and_eq_true, Bool.or_eq_true, decide_eq_true_eq, Nat.beq_eq, Nat.ble_eq] at hv
  obtain ⟨⟨hd, rfl⟩, h1, hk⟩ := hv
  have hd := of_decide_eq_true hd
  have hf : am_gst none am_cC mid (pc + 3) ls st M a = some (.inl (b', (mid', pc', ls', st'), M1)) := hf
  unfold am_gst at hf
  split at hf
  · cases hf; exact ⟨rfl, fun K => sd_gets0 hd hk Z K⟩
  · cases hf; exact ⟨rfl, fun K => sd_gets1 hd hk Z K⟩
  · cases hf; exact ⟨rfl, fun K => sd_gets2 hd hk Z K⟩
  · cases hf; exact ⟨rfl, fun K => sd_gets3 hd hk Z K⟩
  · cases hf
theorem dp_iaload {D : va_G} {cs : Nat → ClassId} {sa : Nat → Nat → Nat} {fm : Option Nat} {b0 : Nat} {xs : Nat → Int32} {Ls : Nat} {p : Program} {l : Launch} {e : Env} {R : Room} {s : State} {m : MethodId} {args : Array Value} {below : List Frame} {meth : Method} {c : Code} {Qw : State → Prop} {H : Heap} {locs : List Loc} {lsC : Array Slot} {cells slots : Nat} {ad : Nat → Nat → Nat} {L : List (Nat × Nat)} {mid pc : Nat} {ls : List (Option am_V)} {M : am_M} {st st' : List am_V} {b' : Bool} {mid' pc' nx a b ci w : Nat} {ls' : List (Option am_V)} {M1 : am_M} {k : Int32} {sw : List (Int32 × Nat)}  (hv : am_ckB mid pc (.iaload, nx, a, b, ci, w, k, sw) = true) (hf : am_insO mid pc ls st M (.iaload) nx a b ci k sw = some (.inl (b', (mid', pc', ls', st'), M1))) (Z : am_Ho D cs sa fm b0 xs Ls p l e R s m args below meth c H locs lsC cells slots ad L mid ls (st) M) (hcl : cells + M1.2.2.2.2.1 ≤ R.cells + M.2.2.2.2.1) (hsl : slots + M1.2.2.2.2.2 ≤ R.slots + M.2.2.2.2.2) : mid' = mid ∧ (am_KK D cs sa fm b0 xs Ls p l e R s m args below meth c Qw mid cells slots M ad L (pc') (ls') (st') (M1) → W p l e R s m args below meth c H locs cells slots Qw (F0 m pc lsC ((st).map (am_cv sa fm ad)))) := by
  simp only [am_ckB, am_ckX, am_ln, Bool.and_eq_true, Bool.or_eq_true, decide_eq_true_eq, Nat.beq_eq, Nat.ble_eq] at hv
  obtain ⟨⟨hd, rfl⟩, -⟩ := hv
  have hd := of_decide_eq_true hd
  obtain ⟨i, t, rfl, hf⟩ := am_i1_s hf
  obtain ⟨g, q, t, rfl, hf⟩ := am_r1_s hf
  obtain ⟨hg, hf⟩ := am_cnd_s hf
  obtain ⟨hi, hf⟩ := am_if_s hf
  simp only [Bool.and_eq_true, Bool.or_eq_true, Nat.ble_eq] at hg
  by_cases h97 : g = 97
  · subst h97
    cases hf
    exact ⟨rfl, fun K => sd_iald97 hd hi Z K⟩
  · by_cases h98 : g = 98
    · subst h98
      cases hf
      exact ⟨rfl, fun K => sd_iald98 hd hi Z K⟩
    · have e1 : Nat.beq g 97 = false := by cases h : Nat.beq g 97 with
        | false => rfl
        | true => exact absurd (Nat.eq_of_beq_eq_true h) h97
      have e2 : Nat.beq g 98 = false := by cases h : Nat.beq g 98 with
        | false => rfl
        | true => exact absurd (Nat.eq_of_beq_eq_true h) h98
      have e3 : Nat.beq g 99 = false := by cases h : Nat.beq g 99 with
        | false => rfl
        | true => have := Nat.eq_of_beq_eq_true h; omega
      simp only [am_rdL, am_rdI, e1, e2, e3, cond_false] at hi hf
      cases hf
      by_cases h96 : g = 96
      · subst h96
        exact ⟨rfl, fun K => sd_iald96 hd hi Z K⟩
      · exact ⟨rfl, fun K => sd_iald hd hg.1 (by omega) hi Z K⟩
theorem dp_baload {D : va_G} {cs : Nat → ClassId} {sa : Nat → Nat → Nat} {fm : Option Nat} {b0 : Nat} {xs : Nat → Int32} {Ls : Nat} {p : Program} {l : Launch} {e : Env} {R : Room} {s : State} {m : MethodId} {args : Array Value} {below : List Frame} {meth : Method} {c : Code} {Qw : State → Prop} {H : Heap} {locs : List Loc} {lsC : Array Slot} {cells slots : Nat} {ad : Nat → Nat → Nat} {L : List (Nat × Nat)} {mid pc : Nat} {ls : List (Option am_V)} {M : am_M} {st st' : List am_V} {b' : Bool} {mid' pc' nx a b ci w : Nat} {ls' : List (Option am_V)} {M1 : am_M} {k : Int32} {sw : List (Int32 × Nat)}  (hv : am_ckB mid pc (.baload, nx, a, b, ci, w, k, sw) = true) (hf : am_insO mid pc ls st M (.baload) nx a b ci k sw = some (.inl (b', (mid', pc', ls', st'), M1))) (Z : am_Ho D cs sa fm b0 xs Ls p l e R s m args below meth c H locs lsC cells slots ad L mid ls (st) M) (hcl : cells + M1.2.2.2.2.1 ≤ R.cells + M.2.2.2.2.1) (hsl : slots + M1.2.2.2.2.2 ≤ R.slots + M.2.2.2.2.2) : mid' = mid ∧ (am_KK D cs sa fm b0 xs Ls p l e R s m args below meth c Qw mid cells slots M ad L (pc') (ls') (st') (M1) → W p l e R s m args below meth c H locs cells slots Qw (F0 m pc lsC ((st).map (am_cv sa fm ad)))) := by
  simp only [am_ckB, am_ckX, am_ln, Bool.and_eq_true, Bool.or_eq_true, decide_eq_true_eq, Nat.beq_eq, Nat.ble_eq] at hv
  obtain ⟨⟨hd, rfl⟩, -⟩ := hv
  have hd := of_decide_eq_true hd
  obtain ⟨i, t, rfl, hf⟩ := am_i1_s hf
  obtain ⟨g, q, t, rfl, hf⟩ := am_r1_s hf
  obtain ⟨hg, hf⟩ := am_cnd_s hf
  obtain ⟨hi, h9⟩ := am_if_s hf
  simp only [Nat.beq_eq] at hg
  subst hg
  cases h9
  exact ⟨rfl, fun K => sd_bald hd hi Z K⟩
theorem dp_iastore {D : va_G} {cs : Nat → ClassId} {sa : Nat → Nat → Nat} {fm : Option Nat} {b0 : Nat} {xs : Nat → Int32} {Ls : Nat} {p : Program} {l : Launch} {e : Env} {R : Room} {s : State} {m : MethodId} {args : Array Value} {below : List Frame} {meth : Method} {c : Code} {Qw : State → Prop} {H : Heap} {locs : List Loc} {lsC : Array Slot} {cells slots : Nat} {ad : Nat → Nat → Nat} {L : List (Nat × Nat)} {mid pc : Nat} {ls : List (Option am_V)} {M : am_M} {st st' : List am_V} {b' : Bool} {mid' pc' nx a b ci w : Nat} {ls' : List (Option am_V)} {M1 : am_M} {k : Int32} {sw : List (Int32 × Nat)}  (hv : am_ckB mid pc (.iastore, nx, a, b, ci, w, k, sw) = true) (hf : am_insO mid pc ls st M (.iastore) nx a b ci k sw = some (.inl (b', (mid', pc', ls', st'), M1))) (Z : am_Ho D cs sa fm b0 xs Ls p l e R s m args below meth c H locs lsC cells slots ad L mid ls (st) M) (hcl : cells + M1.2.2.2.2.1 ≤ R.cells + M.2.2.2.2.1) (hsl : slots + M1.2.2.2.2.2 ≤ R.slots + M.2.2.2.2.2) : mid' = mid ∧ (am_KK D cs sa fm b0 xs Ls p l e R s m args below meth c Qw mid cells slots M ad L (pc') (ls') (st') (M1) → W p l e R s m args below meth c H locs cells slots Qw (F0 m pc lsC ((st).map (am_cv sa fm ad)))) := by
  simp only [am_ckB, am_ckX, am_ln, Bool.and_eq_true, Bool.or_eq_true, decide_eq_true_eq, Nat.beq_eq, Nat.ble_eq] at hv
  obtain ⟨⟨hd, rfl⟩, -⟩ := hv
  have hd := of_decide_eq_true hd
  obtain ⟨i, x, t, rfl, hf⟩ := am_i2_s hf
  obtain ⟨g, q, t, rfl, hf⟩ := am_r1_s hf
  obtain ⟨hg, hf⟩ := am_cnd_s hf
  obtain ⟨hi, hf⟩ := am_if_s hf
  simp only [Bool.and_eq_true, Nat.ble_eq] at hg
  cases hf
  exact ⟨rfl, fun K => sd_iast hd hg.1 hg.2 hi Z K⟩
theorem dp_aaload {D : va_G} {cs : Nat → ClassId} {sa : Nat → Nat → Nat} {fm : Option Nat} {b0 : Nat} {xs : Nat → Int32} {Ls : Nat} {p : Program} {l : Launch} {e : Env} {R : Room} {s : State} {m : MethodId} {args : Array Value} {below : List Frame} {meth : Method} {c : Code} {Qw : State → Prop} {H : Heap} {locs : List Loc} {lsC : Array Slot} {cells slots : Nat} {ad : Nat → Nat → Nat} {L : List (Nat × Nat)} {mid pc : Nat} {ls : List (Option am_V)} {M : am_M} {st st' : List am_V} {b' : Bool} {mid' pc' nx a b ci w : Nat} {ls' : List (Option am_V)} {M1 : am_M} {k : Int32} {sw : List (Int32 × Nat)}  (hv : am_ckB mid pc (.aaload, nx, a, b, ci, w, k, sw) = true) (hf : am_insO mid pc ls st M (.aaload) nx a b ci k sw = some (.inl (b', (mid', pc', ls', st'), M1))) (Z : am_Ho D cs sa fm b0 xs Ls p l e R s m args below meth c H locs lsC cells slots ad L mid ls (st) M) (hcl : cells + M1.2.2.2.2.1 ≤ R.cells + M.2.2.2.2.1) (hsl : slots + M1.2.2.2.2.2 ≤ R.slots + M.2.2.2.2.2) : mid' = mid ∧ (am_KK D cs sa fm b0 xs Ls p l e R s m args below meth c Qw mid cells slots M ad L (pc') (ls') (st') (M1) → W p l e R s m args below meth c H locs cells slots Qw (F0 m pc lsC ((st).map (am_cv sa fm ad)))) := by
  simp only [am_ckB, am_ckX, am_ln, Bool.and_eq_true, Bool.or_eq_true, decide_eq_true_eq, Nat.beq_eq, Nat.ble_eq] at hv
  obtain ⟨⟨hd, rfl⟩, -⟩ := hv
  have hd := of_decide_eq_true hd
  obtain ⟨i, t, rfl, hf⟩ := am_i1_s hf
  obtain ⟨g, q, t, rfl, hf⟩ := am_r1_s hf
  obtain ⟨hg, hf⟩ := am_cnd_s hf
  obtain ⟨hi, hf⟩ := am_if_s hf
  simp only [Bool.and_eq_true, Nat.ble_eq] at hg
  cases hf
  exact ⟨rfl, fun K => sd_aald hd hg.1 hg.2 hi Z K⟩
theorem dp_aastore {D : va_G} {cs : Nat → ClassId} {sa : Nat → Nat → Nat} {fm : Option Nat} {b0 : Nat} {xs : Nat → Int32} {Ls : Nat} {p : Program} {l : Launch} {e : Env} {R : Room} {s : State} {m : MethodId} {args : Array Value} {below : List Frame} {meth : Method} {c : Code} {Qw : State → Prop} {H : Heap} {locs : List Loc} {lsC : Array Slot} {cells slots : Nat} {ad : Nat → Nat → Nat} {L : List (Nat × Nat)} {mid pc : Nat} {ls : List (Option am_V)} {M : am_M} {st st' : List am_V} {b' : Bool} {mid' pc' nx a b ci w : Nat} {ls' : List (Option am_V)} {M1 : am_M} {k : Int32} {sw : List (Int32 × Nat)}  (hv : am_ckB mid pc (.aastore, nx, a, b, ci, w, k, sw) = true) (hf : am_insO mid pc ls st M (.aastore) nx a b ci k sw = some (.inl (b', (mid', pc', ls', st'), M1))) (Z : am_Ho D cs sa fm b0 xs Ls p l e R s m args below meth c H locs lsC cells slots ad L mid ls (st) M) (hcl : cells + M1.2.2.2.2.1 ≤ R.cells + M.2.2.2.2.1) (hsl : slots + M1.2.2.2.2.2 ≤ R.slots + M.2.2.2.2.2) : mid' = mid ∧ (am_KK D cs sa fm b0 xs Ls p l e R s m args below meth c Qw mid cells slots M ad L (pc') (ls') (st') (M1) → W p l e R s m args below meth c H locs cells slots Qw (F0 m pc lsC ((st).map (am_cv sa fm ad)))) := by
  simp only [am_ckB, am_ckX, am_ln, Bool.and_eq_true, Bool.or_eq_true, decide_eq_true_eq, Nat.beq_eq, Nat.ble_eq] at hv
  obtain ⟨⟨hd, rfl⟩, -⟩ := hv
  have hd := of_decide_eq_true hd
  obtain ⟨gr, kr, t, rfl, hf⟩ := am_r1_s hf
  obtain ⟨i, t, rfl, hf⟩ := am_i1_s hf
  obtain ⟨g, q, t, rfl, hf⟩ := am_r1_s hf
  obtain ⟨hg, hf⟩ := am_cnd_s hf
  obtain ⟨hi, hf⟩ := am_if_s hf
  simp only [Bool.and_eq_true, Nat.ble_eq, Nat.beq_eq] at hg
  obtain ⟨⟨h1, h2⟩, rfl⟩ := hg
  cases hf
  exact ⟨rfl, fun K => sd_aast hd h1 h2 hi Z K⟩
theorem dp_arraylength {D : va_G} {cs : Nat → ClassId} {sa : Nat → Nat → Nat} {fm : Option Nat} {b0 : Nat} {xs : Nat → Int32} {Ls : Nat} {p : Program} {l : Launch} {e : Env} {R : Room} {s : State} {m : MethodId} {args : Array Value} {below : List Frame} {meth : Method} {c : Code} {Qw : State → Prop} {H : Heap} {locs : List Loc} {lsC : Array Slot} {cells slots : Nat} {ad : Nat → Nat → Nat} {L : List (Nat × Nat)} {mid pc : Nat} {ls : List (Option am_V)} {M : am_M} {st st' : List am_V} {b' : Bool} {mid' pc' nx a b ci w : Nat} {ls' : List (Option am_V)} {M1 : am_M} {k : Int32} {sw : List (Int32 × Nat)}  (hv : am_ckB mid pc (.arraylength, nx, a, b, ci, w, k, sw) = true) (hf : am_insO mid pc ls st M (.arraylength) nx a b ci k sw = some (.inl (b', (mid', pc', ls', st'), M1))) (Z : am_Ho D cs sa fm b0 xs Ls p l e R s m args below meth c H locs lsC cells slots ad L mid ls (st) M) (hcl : cells + M1.2.2.2.2.1 ≤ R.cells + M.2.2.2.2.1) (hsl : slots + M1.2.2.2.2.2 ≤ R.slots + M.2.2.2.2.2) : mid' = mid ∧ (am_KK D cs sa fm b0 xs Ls p l e R s m args below meth c Qw mid cells slots M ad L (pc') (ls') (st') (M1) → W p l e R s m args below meth c H locs cells slots Qw (F0 m pc lsC ((st).map (am_cv sa fm ad)))) := by
  simp only [am_ckB, am_ckX, am_ln, Bool.and_eq_true, Bool.or_eq_true, decide_eq_true_eq, Nat.beq_eq, Nat.ble_eq] at hv
  obtain ⟨⟨hd, rfl⟩, -⟩ := hv
  have hd := of_decide_eq_true hd
  obtain ⟨g, q, t, rfl, hf⟩ := am_r1_s hf
  obtain ⟨hg, hf⟩ := am_cnd_s hf
  simp only [Bool.and_eq_true, Bool.or_eq_true, Nat.ble_eq] at hg
  obtain ⟨⟨hx, hb, hml, hown, hts, hr, hlk, hin⟩, hS, hR, hW, hL, hT⟩ := id Z
  by_cases h97 : g = 97
  · subst h97
    cases hf
    have hq : q = 0 := by have := am_oh hT; simpa [am_okv, am_okr] using this
    subst hq
    obtain ⟨-, -, -, -, -, -, h7, h8, -⟩ := hS
    refine ⟨rfl, fun K => ?_⟩
    show W p l e R s m args below meth c H locs cells slots Qw (F0 m pc lsC (am_cv sa fm ad (.inr (.inr (some (97, 0)))) :: t.map (am_cv sa fm ad)))
    rw [am_cv_x (by omega) (by omega)]
    exact va_tlen hx hb h7 hW.2.2.1 rfl hd (am_k0 Z K (am_oc trivial (am_ot hT)))
  · by_cases h98 : g = 98
    · subst h98
      cases hf
      have hq : q = 0 := by have := am_oh hT; simpa [am_okv, am_okr] using this
      subst hq
      obtain ⟨-, -, -, -, -, -, h7, h8, -⟩ := hS
      refine ⟨rfl, fun K => ?_⟩
      show W p l e R s m args below meth c H locs cells slots Qw (F0 m pc lsC (am_cv sa fm ad (.inr (.inr (some (98, 0)))) :: t.map (am_cv sa fm ad)))
      rw [am_cv_x (by omega) (by omega)]
      exact va_tlen hx hb h8 hW.2.2.1 rfl hd (am_k0 Z K (am_oc trivial (am_ot hT)))
    · by_cases h99 : g = 99
      · subst h99
        cases hf
        exact ⟨rfl, fun K => sd_alen99 hd Z K⟩
      · have e1 : Nat.beq g 97 = false := by cases h : Nat.beq g 97 with
          | false => rfl
          | true => exact absurd (Nat.eq_of_beq_eq_true h) h97
        have e2 : Nat.beq g 98 = false := by cases h : Nat.beq g 98 with
          | false => rfl
          | true => exact absurd (Nat.eq_of_beq_eq_true h) h98
        have e3 : Nat.beq g 99 = false := by cases h : Nat.beq g 99 with
          | false => rfl
          | true => exact absurd (Nat.eq_of_beq_eq_true h) h99
        simp only [am_rdL, e1, e2, e3, cond_false] at hf
        cases hf
        by_cases h96 : g = 96
        · subst h96
          exact ⟨rfl, fun K => sd_alen96 hd Z K⟩
        · exact ⟨rfl, fun K => sd_alen hd hg.1 (by omega) Z K⟩
theorem dp_new {D : va_G} {cs : Nat → ClassId} {sa : Nat → Nat → Nat} {fm : Option Nat} {b0 : Nat} {xs : Nat → Int32} {Ls : Nat} {p : Program} {l : Launch} {e : Env} {R : Room} {s : State} {m : MethodId} {args : Array Value} {below : List Frame} {meth : Method} {c : Code} {Qw : State → Prop} {H : Heap} {locs : List Loc} {lsC : Array Slot} {cells slots : Nat} {ad : Nat → Nat → Nat} {L : List (Nat × Nat)} {mid pc : Nat} {ls : List (Option am_V)} {M : am_M} {st st' : List am_V} {b' : Bool} {mid' pc' nx a b ci w : Nat} {ls' : List (Option am_V)} {M1 : am_M} {k : Int32} {sw : List (Int32 × Nat)} {n : Nat} (hv : am_ckB mid pc (.new n, nx, a, b, ci, w, k, sw) = true) (hf : am_insO mid pc ls st M (.new n) nx a b ci k sw = some (.inl (b', (mid', pc', ls', st'), M1))) (Z : am_Ho D cs sa fm b0 xs Ls p l e R s m args below meth c H locs lsC cells slots ad L mid ls (st) M) (hcl : cells + M1.2.2.2.2.1 ≤ R.cells + M.2.2.2.2.1) (hsl : slots + M1.2.2.2.2.2 ≤ R.slots + M.2.2.2.2.2) : mid' = mid ∧ (am_KK D cs sa fm b0 xs Ls p l e R s m args below meth c Qw mid cells slots M ad L (pc') (ls') (st') (M1) → W p l e R s m args below meth c H locs cells slots Qw (F0 m pc lsC ((st).map (am_cv sa fm ad)))) := by
  simp only [am_ckB, am_ckX, am_ln, Bool.and_eq_true, Bool.or_eq_true, decide_eq_true_eq, Nat.beq_eq, Nat.ble_eq] at hv
  obtain ⟨⟨hd, rfl⟩, hk⟩ := hv
  have hd := of_decide_eq_true hd
  obtain ⟨ha, hf⟩ := am_cnd_s hf
  simp only [Nat.ble_eq] at ha
  cases hf
  have hcl : cells + (M.2.2.2.2.1 + 1) ≤ R.cells + M.2.2.2.2.1 := hcl
  have hsl : slots + (M.2.2.2.2.2 + am_N a) ≤ R.slots + M.2.2.2.2.2 := hsl
  exact ⟨rfl, fun K => sd_new hd ha hk (by omega) (by omega) Z K⟩
theorem dp_newarray {D : va_G} {cs : Nat → ClassId} {sa : Nat → Nat → Nat} {fm : Option Nat} {b0 : Nat} {xs : Nat → Int32} {Ls : Nat} {p : Program} {l : Launch} {e : Env} {R : Room} {s : State} {m : MethodId} {args : Array Value} {below : List Frame} {meth : Method} {c : Code} {Qw : State → Prop} {H : Heap} {locs : List Loc} {lsC : Array Slot} {cells slots : Nat} {ad : Nat → Nat → Nat} {L : List (Nat × Nat)} {mid pc : Nat} {ls : List (Option am_V)} {M : am_M} {st st' : List am_V} {b' : Bool} {mid' pc' nx a b ci w : Nat} {ls' : List (Option am_V)} {M1 : am_M} {k : Int32} {sw : List (Int32 × Nat)} {n : ArrayType} (hv : am_ckB mid pc (.newarray n, nx, a, b, ci, w, k, sw) = true) (hf : am_insO mid pc ls st M (.newarray n) nx a b ci k sw = some (.inl (b', (mid', pc', ls', st'), M1))) (Z : am_Ho D cs sa fm b0 xs Ls p l e R s m args below meth c H locs lsC cells slots ad L mid ls (st) M) (hcl : cells + M1.2.2.2.2.1 ≤ R.cells + M.2.2.2.2.1) (hsl : slots + M1.2.2.2.2.2 ≤ R.slots + M.2.2.2.2.2) : mid' = mid ∧ (am_KK D cs sa fm b0 xs Ls p l e R s m args below meth c Qw mid cells slots M ad L (pc') (ls') (st') (M1) → W p l e R s m args below meth c H locs cells slots Qw (F0 m pc lsC ((st).map (am_cv sa fm ad)))) := by
  simp only [am_ckB, am_ckX, am_ln, Bool.and_eq_true, Bool.or_eq_true, decide_eq_true_eq, Nat.beq_eq, Nat.ble_eq] at hv
  obtain ⟨⟨hd, rfl⟩, rfl⟩ := hv
  have hd := of_decide_eq_true hd
  obtain ⟨x, t, rfl, hf⟩ := am_i1_s hf
  obtain ⟨ha, hf⟩ := am_cnd_s hf
  obtain ⟨hn, hf⟩ := am_if_s hf
  simp only [Bool.and_eq_true, Nat.ble_eq] at ha
  cases hf
  have hcl : cells + (M.2.2.2.2.1 + 1) ≤ R.cells + M.2.2.2.2.1 := hcl
  have hsl : slots + (M.2.2.2.2.2 + x.toNatClampNeg) ≤ R.slots + M.2.2.2.2.2 := hsl
  exact ⟨rfl, fun K => sd_newa hd ha.1 ha.2 (fun z => hn (Or.inl z)) (Nat.le_of_not_lt (fun z => hn (Or.inr z))) (by omega) (by omega) Z K⟩
theorem dp_anewarray {D : va_G} {cs : Nat → ClassId} {sa : Nat → Nat → Nat} {fm : Option Nat} {b0 : Nat} {xs : Nat → Int32} {Ls : Nat} {p : Program} {l : Launch} {e : Env} {R : Room} {s : State} {m : MethodId} {args : Array Value} {below : List Frame} {meth : Method} {c : Code} {Qw : State → Prop} {H : Heap} {locs : List Loc} {lsC : Array Slot} {cells slots : Nat} {ad : Nat → Nat → Nat} {L : List (Nat × Nat)} {mid pc : Nat} {ls : List (Option am_V)} {M : am_M} {st st' : List am_V} {b' : Bool} {mid' pc' nx a b ci w : Nat} {ls' : List (Option am_V)} {M1 : am_M} {k : Int32} {sw : List (Int32 × Nat)} {n : Nat} (hv : am_ckB mid pc (.anewarray n, nx, a, b, ci, w, k, sw) = true) (hf : am_insO mid pc ls st M (.anewarray n) nx a b ci k sw = some (.inl (b', (mid', pc', ls', st'), M1))) (Z : am_Ho D cs sa fm b0 xs Ls p l e R s m args below meth c H locs lsC cells slots ad L mid ls (st) M) (hcl : cells + M1.2.2.2.2.1 ≤ R.cells + M.2.2.2.2.1) (hsl : slots + M1.2.2.2.2.2 ≤ R.slots + M.2.2.2.2.2) : mid' = mid ∧ (am_KK D cs sa fm b0 xs Ls p l e R s m args below meth c Qw mid cells slots M ad L (pc') (ls') (st') (M1) → W p l e R s m args below meth c H locs cells slots Qw (F0 m pc lsC ((st).map (am_cv sa fm ad)))) := by
  simp only [am_ckB, am_ckX, am_ln, Bool.and_eq_true, Bool.or_eq_true, decide_eq_true_eq, Nat.beq_eq, Nat.ble_eq] at hv
  obtain ⟨⟨hd, rfl⟩, hk⟩ := hv
  have hd := of_decide_eq_true hd
  obtain ⟨x, t, rfl, hf⟩ := am_i1_s hf
  obtain ⟨ha, hf⟩ := am_cnd_s hf
  obtain ⟨hn, hf⟩ := am_if_s hf
  simp only [Bool.and_eq_true, Nat.ble_eq] at ha
  cases hf
  have hcl : cells + (M.2.2.2.2.1 + 1) ≤ R.cells + M.2.2.2.2.1 := hcl
  have hsl : slots + (M.2.2.2.2.2 + x.toNatClampNeg) ≤ R.slots + M.2.2.2.2.2 := hsl
  exact ⟨rfl, fun K => sd_newq hd ha.1 ha.2 hk (fun z => hn (Or.inl z)) (Nat.le_of_not_lt (fun z => hn (Or.inr z))) (by omega) (by omega) Z K⟩
theorem dp_invokevirtual {D : va_G} {cs : Nat → ClassId} {sa : Nat → Nat → Nat} {fm : Option Nat} {b0 : Nat} {xs : Nat → Int32} {Ls : Nat} {p : Program} {l : Launch} {e : Env} {R : Room} {s : State} {m : MethodId} {args : Array Value} {below : List Frame} {meth : Method} {c : Code} {Qw : State → Prop} {H : Heap} {locs : List Loc} {lsC : Array Slot} {cells slots : Nat} {ad : Nat → Nat → Nat} {L : List (Nat × Nat)} {mid pc : Nat} {ls : List (Option am_V)} {M : am_M} {st st' : List am_V} {b' : Bool} {mid' pc' nx a b ci w : Nat} {ls' : List (Option am_V)} {M1 : am_M} {k : Int32} {sw : List (Int32 × Nat)} {n : Nat} (hv : am_ckB mid pc (.invokevirtual n, nx, a, b, ci, w, k, sw) = true) (hf : am_insO mid pc ls st M (.invokevirtual n) nx a b ci k sw = some (.inl (b', (mid', pc', ls', st'), M1))) (Z : am_Ho D cs sa fm b0 xs Ls p l e R s m args below meth c H locs lsC cells slots ad L mid ls (st) M) (hcl : cells + M1.2.2.2.2.1 ≤ R.cells + M.2.2.2.2.1) (hsl : slots + M1.2.2.2.2.2 ≤ R.slots + M.2.2.2.2.2) : mid' = mid ∧ (am_KK D cs sa fm b0 xs Ls p l e R s m args below meth c Qw mid cells slots M ad L (pc') (ls') (st') (M1) → W p l e R s m args below meth c H locs cells slots Qw (F0 m pc lsC ((st).map (am_cv sa fm ad)))) := by
  simp only [am_ckB, am_ckX, am_ln, Bool.and_eq_true, Bool.or_eq_true, decide_eq_true_eq, Nat.beq_eq, Nat.ble_eq] at hv
  have hf : am_inv none am_cC am_cL mid nx ls st M a b = some (.inl (b', (mid', pc', ls', st'), M1)) := hf
  rcases am_inv_s hf with ⟨-, hf⟩ | ⟨rfl, x, y, t, rfl, h1, hf⟩ | ⟨rfl, x, y, t, rfl, h1, hf⟩ | ⟨rfl, x, t, rfl, h1, hf⟩ | ⟨rfl, nn, dp, gd, od, sp, gs, os, t, rfl, h1, h2, h3, h4, h5, h6, hf⟩ | ⟨rfl, g, q, t, rfl, h1, hg, hf⟩
  · obtain ⟨as, t, -, -, -, -, -, hf⟩ := am_cl1_s hf
    cases hf
  all_goals (exfalso; revert hv; simp)
theorem dp_invokespecial {D : va_G} {cs : Nat → ClassId} {sa : Nat → Nat → Nat} {fm : Option Nat} {b0 : Nat} {xs : Nat → Int32} {Ls : Nat} {p : Program} {l : Launch} {e : Env} {R : Room} {s : State} {m : MethodId} {args : Array Value} {below : List Frame} {meth : Method} {c : Code} {Qw : State → Prop} {H : Heap} {locs : List Loc} {lsC : Array Slot} {cells slots : Nat} {ad : Nat → Nat → Nat} {L : List (Nat × Nat)} {mid pc : Nat} {ls : List (Option am_V)} {M : am_M} {st st' : List am_V} {b' : Bool} {mid' pc' nx a b ci w : Nat} {ls' : List (Option am_V)} {M1 : am_M} {k : Int32} {sw : List (Int32 × Nat)} {n : Nat} (hv : am_ckB mid pc (.invokespecial n, nx, a, b, ci, w, k, sw) = true) (hf : am_insO mid pc ls st M (.invokespecial n) nx a b ci k sw = some (.inl (b', (mid', pc', ls', st'), M1))) (Z : am_Ho D cs sa fm b0 xs Ls p l e R s m args below meth c H locs lsC cells slots ad L mid ls (st) M) (hcl : cells + M1.2.2.2.2.1 ≤ R.cells + M.2.2.2.2.1) (hsl : slots + M1.2.2.2.2.2 ≤ R.slots + M.2.2.2.2.2) : mid' = mid ∧ (am_KK D cs sa fm b0 xs Ls p l e R s m args below meth c Qw mid cells slots M ad L (pc') (ls') (st') (M1) → W p l e R s m args below meth c H locs cells slots Qw (F0 m pc lsC ((st).map (am_cv sa fm ad)))) := by
  simp only [am_ckB, am_ckX, am_ln, Bool.and_eq_true, Bool.or_eq_true, decide_eq_true_eq, Nat.beq_eq, Nat.ble_eq] at hv
  have hf : am_inv none am_cC am_cL mid nx ls st M a b = some (.inl (b', (mid', pc', ls', st'), M1)) := hf
  rcases am_inv_s hf with ⟨-, hf⟩ | ⟨rfl, x, y, t, rfl, h1, hf⟩ | ⟨rfl, x, y, t, rfl, h1, hf⟩ | ⟨rfl, x, t, rfl, h1, hf⟩ | ⟨rfl, nn, dp, gd, od, sp, gs, os, t, rfl, h1, h2, h3, h4, h5, h6, hf⟩ | ⟨rfl, g, q, t, rfl, h1, hg, hf⟩
  · obtain ⟨as, t, -, -, -, -, -, hf⟩ := am_cl1_s hf
    cases hf
  · exfalso; revert hv; simp
  · exfalso; revert hv; simp
  · exfalso; revert hv; simp
  · exfalso; revert hv; simp
  · obtain ⟨⟨hd, rfl⟩, hk⟩ := hv
    have hd := of_decide_eq_true hd
    cases hf
    have hk : am_wd w (.methodLink (am_own mid) n objectInit) = true := hk
    exact ⟨rfl, fun K => sd_objinit hd hk h1 hg Z K⟩
theorem dp_invokestatic {D : va_G} {cs : Nat → ClassId} {sa : Nat → Nat → Nat} {fm : Option Nat} {b0 : Nat} {xs : Nat → Int32} {Ls : Nat} {p : Program} {l : Launch} {e : Env} {R : Room} {s : State} {m : MethodId} {args : Array Value} {below : List Frame} {meth : Method} {c : Code} {Qw : State → Prop} {H : Heap} {locs : List Loc} {lsC : Array Slot} {cells slots : Nat} {ad : Nat → Nat → Nat} {L : List (Nat × Nat)} {mid pc : Nat} {ls : List (Option am_V)} {M : am_M} {st st' : List am_V} {b' : Bool} {mid' pc' nx a b ci w : Nat} {ls' : List (Option am_V)} {M1 : am_M} {k : Int32} {sw : List (Int32 × Nat)} {n : Nat} (hv : am_ckB mid pc (.invokestatic n, nx, a, b, ci, w, k, sw) = true) (hf : am_insO mid pc ls st M (.invokestatic n) nx a b ci k sw = some (.inl (b', (mid', pc', ls', st'), M1))) (Z : am_Ho D cs sa fm b0 xs Ls p l e R s m args below meth c H locs lsC cells slots ad L mid ls (st) M) (hcl : cells + M1.2.2.2.2.1 ≤ R.cells + M.2.2.2.2.1) (hsl : slots + M1.2.2.2.2.2 ≤ R.slots + M.2.2.2.2.2) : mid' = mid ∧ (am_KK D cs sa fm b0 xs Ls p l e R s m args below meth c Qw mid cells slots M ad L (pc') (ls') (st') (M1) → W p l e R s m args below meth c H locs cells slots Qw (F0 m pc lsC ((st).map (am_cv sa fm ad)))) := by
  simp only [am_ckB, am_ckX, am_ln, Bool.and_eq_true, Bool.or_eq_true, decide_eq_true_eq, Nat.beq_eq, Nat.ble_eq] at hv
  have hf : am_inv none am_cC am_cL mid nx ls st M a b = some (.inl (b', (mid', pc', ls', st'), M1)) := hf
  rcases am_inv_s hf with ⟨-, hf⟩ | ⟨rfl, x, y, t, rfl, h1, hf⟩ | ⟨rfl, x, y, t, rfl, h1, hf⟩ | ⟨rfl, x, t, rfl, h1, hf⟩ | ⟨rfl, nn, dp, gd, od, sp, gs, os, t, rfl, h1, h2, h3, h4, h5, h6, hf⟩ | ⟨rfl, g, q, t, rfl, h1, hg, hf⟩
  · obtain ⟨as, t, -, -, -, -, -, hf⟩ := am_cl1_s hf
    cases hf
  · obtain ⟨⟨hd, rfl⟩, hk⟩ := hv
    have hd := of_decide_eq_true hd
    cases hf
    exact ⟨rfl, fun K => sd_mmax hd hk h1 Z K⟩
  · obtain ⟨⟨hd, rfl⟩, hk⟩ := hv
    have hd := of_decide_eq_true hd
    cases hf
    exact ⟨rfl, fun K => sd_mmin hd hk h1 Z K⟩
  · obtain ⟨⟨hd, rfl⟩, hk⟩ := hv
    have hd := of_decide_eq_true hd
    cases hf
    exact ⟨rfl, fun K => sd_mabs (y := 0) hd hk h1 Z K⟩
  · obtain ⟨⟨hd, rfl⟩, hk⟩ := hv
    have hd := of_decide_eq_true hd
    cases hf
    exact ⟨rfl, fun K => sd_acopy hd hk h1 h2 h3 h4 h5 h6 Z K⟩
  · exfalso; revert hv; simp
theorem am_irt_s {α : Type} {ret : Option am_V → am_M → Option α} {mid : Nat} {st : List am_V} {M : am_M} {z : α} (h : am_irt none ret mid st M = some z) : ∃ x, st = [.inl x] ∧ (am_rk mid = 1 ∨ (am_rk mid = 2 ∧ x &&& 1 = x) ∨ (am_rk mid = 3 ∧ x.toUInt32.toUInt16.toUInt32.toInt32 = x) ∨ (am_rk mid = 4 ∧ x.toInt8.toInt32 = x)) ∧ ret (some (.inl x)) M = some z := by
  unfold am_irt at h
  obtain ⟨x, t, rfl, h⟩ := am_i1_s h
  obtain ⟨rfl, h⟩ := am_nil_s h
  refine ⟨x, rfl, ?_⟩
  split at h
  · exact ⟨Or.inl ‹_›, h⟩
  · obtain ⟨h1, h⟩ := am_ift_s h
    exact ⟨Or.inr (Or.inl ⟨‹_›, h1⟩), h⟩
  · obtain ⟨h1, h⟩ := am_ift_s h
    exact ⟨Or.inr (Or.inr (Or.inl ⟨‹_›, h1⟩)), h⟩
  · obtain ⟨h1, h⟩ := am_ift_s h
    exact ⟨Or.inr (Or.inr (Or.inr ⟨‹_›, h1⟩)), h⟩
  · cases h
theorem am_ret_no {α : Type} {ret : Option am_V → am_M → Option α} {mid : Nat} {st : List am_V} {M : am_M} {z : α} (hn : ∀ v M, ret v M ≠ some z) (h : am_irt none ret mid st M = some z) : False := by
  obtain ⟨x, -, -, h⟩ := am_irt_s h
  exact hn _ _ h
theorem am_step1 {D : va_G} {cs : Nat → ClassId} {sa : Nat → Nat → Nat} {fm : Option Nat} {b0 : Nat} {xs : Nat → Int32} {Ls : Nat} {p : Program} {l : Launch} {e : Env} {R : Room} {s : State} {m : MethodId} {args : Array Value} {below : List Frame} {meth : Method} {c : Code} {Qw : State → Prop} {H : Heap} {locs : List Loc} {lsC : Array Slot} {cells slots : Nat} {ad : Nat → Nat → Nat} {L : List (Nat × Nat)} {mid pc : Nat} {ls : List (Option am_V)} {M : am_M} {st st' : List am_V} {b' : Bool} {mid' pc' : Nat} {ls' : List (Option am_V)} {M1 : am_M} (hf : am_fn (mid, pc, ls, st) M = some (.inl (b', (mid', pc', ls', st'), M1))) (Z : am_Ho D cs sa fm b0 xs Ls p l e R s m args below meth c H locs lsC cells slots ad L mid ls (st) M) (hcl : cells + M1.2.2.2.2.1 ≤ R.cells + M.2.2.2.2.1) (hsl : slots + M1.2.2.2.2.2 ≤ R.slots + M.2.2.2.2.2) : mid' = mid ∧ (am_KK D cs sa fm b0 xs Ls p l e R s m args below meth c Qw mid cells slots M ad L (pc') (ls') (st') (M1) → W p l e R s m args below meth c H locs cells slots Qw (F0 m pc lsC ((st).map (am_cv sa fm ad)))) := by
  cases hc : am_code mid pc with
  | none => rw [am_fn_none hc] at hf; cases hf
  | some x =>
    obtain ⟨ins, nx, a, b, ci, w, k, sw⟩ := x
    have hv := am_vd hc
    rw [am_fn_at hc] at hf
    cases ins
    case iconst => exact dp_iconst hv hf Z hcl hsl
    case bipush => exact dp_bipush hv hf Z hcl hsl
    case sipush => exact dp_sipush hv hf Z hcl hsl
    case lconst => exact dp_lconst hv hf Z hcl hsl
    case ldc_w => exact dp_ldc_w hv hf Z hcl hsl
    case ldc2_w => exact dp_ldc2_w hv hf Z hcl hsl
    case ldc => exact dp_ldc hv hf Z hcl hsl
    case aconst_null => exact dp_aconst_null hv hf Z hcl hsl
    case iload_n => exact dp_iload_n hv hf Z hcl hsl
    case iload => exact dp_iload hv hf Z hcl hsl
    case lload_n => exact dp_lload_n hv hf Z hcl hsl
    case lload => exact dp_lload hv hf Z hcl hsl
    case aload_n => exact dp_aload_n hv hf Z hcl hsl
    case aload => exact dp_aload hv hf Z hcl hsl
    case istore_n => exact dp_istore_n hv hf Z hcl hsl
    case istore => exact dp_istore hv hf Z hcl hsl
    case astore_n => exact dp_astore_n hv hf Z hcl hsl
    case astore => exact dp_astore hv hf Z hcl hsl
    case iinc => exact dp_iinc hv hf Z hcl hsl
    case iadd => exact dp_iadd hv hf Z hcl hsl
    case isub => exact dp_isub hv hf Z hcl hsl
    case imul => exact dp_imul hv hf Z hcl hsl
    case iand => exact dp_iand hv hf Z hcl hsl
    case ior => exact dp_ior hv hf Z hcl hsl
    case ishl => exact dp_ishl hv hf Z hcl hsl
    case ishr => exact dp_ishr hv hf Z hcl hsl
    case iushr => exact dp_iushr hv hf Z hcl hsl
    case idiv => exact dp_idiv hv hf Z hcl hsl
    case irem => exact dp_irem hv hf Z hcl hsl
    case ineg => exact dp_ineg hv hf Z hcl hsl
    case i2s => exact dp_i2s hv hf Z hcl hsl
    case i2c => exact dp_i2c hv hf Z hcl hsl
    case i2b => exact dp_i2b hv hf Z hcl hsl
    case i2l => exact dp_i2l hv hf Z hcl hsl
    case pop => exact dp_pop hv hf Z hcl hsl
    case ladd => exact dp_ladd hv hf Z hcl hsl
    case lcmp => exact dp_lcmp hv hf Z hcl hsl
    case dup => exact dp_dup hv hf Z hcl hsl
    case dup2 => exact dp_dup2 hv hf Z hcl hsl
    case goto => exact dp_goto hv hf Z hcl hsl
    case ifCond => exact dp_ifCond hv hf Z hcl hsl
    case if_icmp => exact dp_if_icmp hv hf Z hcl hsl
    case ifnull => exact dp_ifnull hv hf Z hcl hsl
    case ifnonnull => exact dp_ifnonnull hv hf Z hcl hsl
    case tableswitch => exact dp_tableswitch hv hf Z hcl hsl
    case lookupswitch => exact dp_lookupswitch hv hf Z hcl hsl
    case getfield => exact dp_getfield hv hf Z hcl hsl
    case putfield => exact dp_putfield hv hf Z hcl hsl
    case getstatic => exact dp_getstatic hv hf Z hcl hsl
    case iaload => exact dp_iaload hv hf Z hcl hsl
    case baload => exact dp_baload hv hf Z hcl hsl
    case iastore => exact dp_iastore hv hf Z hcl hsl
    case aaload => exact dp_aaload hv hf Z hcl hsl
    case aastore => exact dp_aastore hv hf Z hcl hsl
    case arraylength => exact dp_arraylength hv hf Z hcl hsl
    case new => exact dp_new hv hf Z hcl hsl
    case newarray => exact dp_newarray hv hf Z hcl hsl
    case anewarray => exact dp_anewarray hv hf Z hcl hsl
    case invokevirtual => exact dp_invokevirtual hv hf Z hcl hsl
    case invokespecial => exact dp_invokespecial hv hf Z hcl hsl
    case invokestatic => exact dp_invokestatic hv hf Z hcl hsl
    case ireturn => exfalso; exact am_ret_no (ret := am_cR) (mid := mid) (st := st) (M := M) (fun v M z => (by cases z)) hf
    case areturn => exfalso; obtain ⟨r, t, -, hf⟩ := am_q1_s hf; obtain ⟨-, hf⟩ := am_nil_s hf; obtain ⟨-, hf⟩ := am_cnd_s hf; cases hf
    case return_ => exfalso; obtain ⟨-, hf⟩ := am_nil_s hf; obtain ⟨-, hf⟩ := am_cnd_s hf; cases hf
    all_goals cases hf
