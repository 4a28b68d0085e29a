theorem am_c99_len : ∀ o, o < 7 → (am_c99.map List.length).getD o 0 = (am_c99.getD o []).length := by decide
theorem am_wK_dec : (List.range 9).all (fun c => am_wd (am_wK c) (.instantiable (am_R c) (am_N c)) && am_wd (am_wJ c) (.initialized (am_R c))) = true := by decide +kernel
theorem am_wK_ok {c : Nat} (hc : c ≤ 8) : am_wd (am_wK c) (.instantiable (am_R c) (am_N c)) = true ∧ am_wd (am_wJ c) (.initialized (am_R c)) = true := by
  have h1 := List.all_eq_true.mp am_wK_dec c (List.mem_range.mpr (by omega))
  simp only [Bool.and_eq_true] at h1
  exact h1
theorem am_df_dec : (List.range 9).all (fun c => (List.range (am_N c)).all (fun k => decide (defaultValue (am_ty c k) = if am_fk c k = 1 then .null else .int 0))) = true := by decide +kernel
theorem am_df_ok {c k : Nat} (hc : c ≤ 8) (hk : k < am_N c) : defaultValue (am_ty c k) = if am_fk c k = 1 then .null else .int 0 := by
  have h1 := List.all_eq_true.mp am_df_dec c (List.mem_range.mpr (by omega))
  exact of_decide_eq_true (List.all_eq_true.mp h1 k (List.mem_range.mpr hk))
theorem am_ge_le : ∀ g, am_ge g ≤ 8 := by
  intro g
  unfold am_ge
  cases Nat.ble 82 g <;> cases Nat.ble 83 g <;> cases Nat.ble 81 g <;> decide
theorem am_new_at {M : am_M} {g n sl : Nat} : (am_new M g n sl).1 g (M.2.2.1 g) = (fun _ => 0) ∧ (am_new M g n sl).2.1 g (M.2.2.1 g) = (fun _ => none) ∧ (am_new M g n sl).2.2.2.1 g (M.2.2.1 g) = n := by
  refine ⟨funext fun j => ?_, funext fun j => ?_, ?_⟩
  · show cond (Nat.beq g g) (if M.2.2.1 g = M.2.2.1 g then 0 else M.1 g (M.2.2.1 g) j) (M.1 g (M.2.2.1 g) j) = 0
    rw [show Nat.beq g g = true from Nat.beq_refl g]; simp
  · show cond (Nat.beq g g) (if M.2.2.1 g = M.2.2.1 g then none else M.2.1 g (M.2.2.1 g) j) (M.2.1 g (M.2.2.1 g) j) = none
    rw [show Nat.beq g g = true from Nat.beq_refl g]; simp
  · show cond (Nat.beq g g) (if M.2.2.1 g = M.2.2.1 g then n else M.2.2.2.1 g (M.2.2.1 g)) (M.2.2.2.1 g (M.2.2.1 g)) = n
    rw [show Nat.beq g g = true from Nat.beq_refl g]; simp
theorem am_new_ne {M : am_M} {g n sl : Nat} {q : Nat × Nat} (h : q ≠ (g, M.2.2.1 g)) : (am_new M g n sl).1 q.1 q.2 = M.1 q.1 q.2 ∧ (am_new M g n sl).2.1 q.1 q.2 = M.2.1 q.1 q.2 ∧ (am_new M g n sl).2.2.2.1 q.1 q.2 = M.2.2.2.1 q.1 q.2 := by
  cases hb : Nat.beq q.1 g with
  | false =>
    refine ⟨funext fun j => ?_, funext fun j => ?_, ?_⟩
    · show cond (Nat.beq q.1 g) (if q.2 = M.2.2.1 g then 0 else M.1 q.1 q.2 j) (M.1 q.1 q.2 j) = _
      rw [hb]; rfl
    · show cond (Nat.beq q.1 g) (if q.2 = M.2.2.1 g then none else M.2.1 q.1 q.2 j) (M.2.1 q.1 q.2 j) = _
      rw [hb]; rfl
    · show cond (Nat.beq q.1 g) (if q.2 = M.2.2.1 g then n else M.2.2.2.1 q.1 q.2) (M.2.2.2.1 q.1 q.2) = _
      rw [hb]; rfl
  | true =>
    have h1 : q.1 = g := Nat.eq_of_beq_eq_true hb
    have h2 : ¬ q.2 = M.2.2.1 g := fun z => h (Prod.ext h1 z)
    refine ⟨funext fun j => ?_, funext fun j => ?_, ?_⟩
    · show cond (Nat.beq q.1 g) (if q.2 = M.2.2.1 g then 0 else M.1 q.1 q.2 j) (M.1 q.1 q.2 j) = _
      rw [hb]; simp [h2]
    · show cond (Nat.beq q.1 g) (if q.2 = M.2.2.1 g then none else M.2.1 q.1 q.2 j) (M.2.1 q.1 q.2 j) = _
      rw [hb]; simp [h2]
    · show cond (Nat.beq q.1 g) (if q.2 = M.2.2.1 g then n else M.2.2.2.1 q.1 q.2) (M.2.2.2.1 q.1 q.2) = _
      rw [hb]; simp [h2]
theorem am_new_cnt {M : am_M} {g n sl g' : Nat} : (am_new M g n sl).2.2.1 g' = if g' = g then M.2.2.1 g + 1 else M.2.2.1 g' := by
  show cond (Nat.beq g' g) (M.2.2.1 g + 1) (M.2.2.1 g') = _
  cases hb : Nat.beq g' g with
  | false =>
    have : ¬ g' = g := fun z => by rw [z, show Nat.beq g g = true from Nat.beq_refl g] at hb; cases hb
    simp [this]
  | true => simp [Nat.eq_of_beq_eq_true hb]
/-- the world with one cell more -/
theorem am_new_w {cs : Nat → ClassId} {xs : Nat → Int32} {Ls : Nat} {L : List (Nat × Nat)} {M : am_M} {ad : Nat → Nat → Nat} {g n sl q : Nat} {e : va_E} (hw : am_wf xs Ls L M) (hg : g ≤ 95) (he : ∀ ad1, am_ce cs ad1 (am_new M g n sl) (g, M.2.2.1 g) = e) :
    ∃ (ad1 : Nat → Nat → Nat) (L1 : List (Nat × Nat)), am_xt L L1 ad ad1 ∧ am_ws cs ad M L ++ [(q, e)] = am_ws cs ad1 (am_new M g n sl) L1 ∧ am_wf xs Ls L1 (am_new M g n sl) ∧ ad1 g (M.2.2.1 g) = q ∧ (g, M.2.2.1 g) ∈ L1 := by
  have hnot : (g, M.2.2.1 g) ∉ L := fun h => Nat.lt_irrefl _ ((hw.2.1 _ _).mp h).2
  have hne : ∀ q' ∈ L, q' ≠ (g, M.2.2.1 g) := fun q' h z => hnot (by rw [← z]; exact h)
  refine ⟨fun g' k' => if (g', k') = (g, M.2.2.1 g) then q else ad g' k', L ++ [(g, M.2.2.1 g)], ?_, ?_, ?_, ?_, ?_⟩
  · intro q' hq'
    refine ⟨List.mem_append_left _ hq', ?_⟩
    show (if (q'.1, q'.2) = (g, M.2.2.1 g) then q else ad q'.1 q'.2) = _
    rw [if_neg (hne q' hq')]
  · refine am_ws_push (by simp) (he _) (fun q' hq' => ⟨?_, ?_⟩)
    · show (if (q'.1, q'.2) = (g, M.2.2.1 g) then q else ad q'.1 q'.2) = _
      rw [if_neg (hne q' hq')]
    · obtain ⟨h1, h2, h3⟩ := am_new_ne (n := n) (sl := sl) (hne q' hq')
      refine am_ce_xt h1 h2 h3 (fun j r hr => ?_)
      have hrL := hw.2.2.1 q'.1 q'.2 j r hq' hr
      show (if (r.1, r.2) = (g, M.2.2.1 g) then q else ad r.1 r.2) = _
      rw [if_neg (hne r hrL)]
  · refine ⟨am_inj_push hw.1 hnot, fun g' k' => ?_, fun g' k' j r h1 h2 => ?_, ?_, ?_⟩
    · rw [List.mem_append, List.mem_singleton, hw.2.1, am_new_cnt]
      constructor
      · rintro (⟨h1, h2⟩ | h1)
        · refine ⟨h1, ?_⟩
          split
          · rename_i h3; subst h3; omega
          · exact h2
        · cases h1
          exact ⟨hg, by simp⟩
      · rintro ⟨h1, h2⟩
        by_cases h3 : g' = g
        · subst h3
          simp only [if_true] at h2
          by_cases h4 : k' = M.2.2.1 g'
          · exact Or.inr (by rw [h4])
          · exact Or.inl ⟨h1, by omega⟩
        · simp only [h3, if_false] at h2
          exact Or.inl ⟨h1, h2⟩
    · rcases List.mem_append.mp h1 with h1 | h1
      · rw [(am_new_ne (n := n) (sl := sl) (hne _ h1)).2.1] at h2
        exact List.mem_append_left _ (hw.2.2.1 _ _ _ r h1 h2)
      · cases List.mem_singleton.mp h1
        rw [am_new_at.2.1] at h2
        cases h2
    · exact (am_new_ne (q := (96, 0)) (fun z => by have := congrArg Prod.fst z; simp only at this; omega)).1.trans hw.2.2.2.1
    · exact (am_new_ne (q := (96, 0)) (fun z => by have := congrArg Prod.fst z; simp only at this; omega)).2.2.trans hw.2.2.2.2
  · simp
  · exact List.mem_append_right _ (List.mem_singleton.mpr rfl)
set_option maxRecDepth 100000 in
theorem sd_iald {D : va_G} {cs : Nat → ClassId} {sa : Nat → Nat → Nat} {fm : Option Nat} {b0 : Nat} {xs : Nat → Int32} {Ls : Nat} {p : Program} {l : Launch} {e : Env} {R : Room} {s : State} {m : MethodId} {args : Array Value} {below : List Frame} {meth : Method} {c : Code} {Qw : State → Prop} {H : Heap} {locs : List Loc} {lsC : Array Slot} {cells slots : Nat} {ad : Nat → Nat → Nat} {L : List (Nat × Nat)} {mid pc : Nat} {ls : List (Option am_V)} {t : List am_V} {M : am_M} {g q : Nat} {i : Int32} (hd : decode (am_by mid) pc = .ok (.iaload, 1)) (h1 : 16 ≤ g) (h2 : g ≤ 79) (hi9 : ¬ (i < 0 ∨ M.2.2.2.1 g q ≤ i.toNatClampNeg)) (Z : am_Ho D cs sa fm b0 xs Ls p l e R s m args below meth c H locs lsC cells slots ad L mid ls (.inl i :: .inr (.inr (some (g, q))) :: t) M) (K : am_KK D cs sa fm b0 xs Ls p l e R s m args below meth c Qw mid cells slots M ad L (pc + 1) (ls) (.inl (M.1 g q i.toNatClampNeg) :: t) (M)) : W p l e R s m args below meth c H locs cells slots Qw (F0 m pc lsC ((.inl i :: .inr (.inr (some (g, q))) :: t).map (am_cv sa fm ad))) := by
  obtain ⟨⟨hx, hb, hml, hown, hts, hr, hlk, hin⟩, hS, hR, hW, hL, hT⟩ := id Z
  have hi : (g, q) ∈ L := am_okr_in (am_oh (am_ot hT)) (by omega)
  obtain ⟨q0, hq0, hq1⟩ := am_ws_at (cs := cs) (ad := ad) (M := M) hi
  rw [am_ce_i h1 h2] at hq1
  show W p l e R s m args below meth c H locs cells slots Qw (F0 m pc lsC (.int i :: am_cv sa fm ad (.inr (.inr (some (g, q)))) :: t.map (am_cv sa fm ad)))
  rw [am_cv_r (by omega)]
  exact va_iald hx hb hS.1 hW.1 q0 0 hq1 rfl hi9 hd (am_k0 Z K (am_oc trivial (am_ot (am_ot hT))))
set_option maxRecDepth 100000 in
theorem sd_iald96 {D : va_G} {cs : Nat → ClassId} {sa : Nat → Nat → Nat} {fm : Option Nat} {b0 : Nat} {xs : Nat → Int32} {Ls : Nat} {p : Program} {l : Launch} {e : Env} {R : Room} {s : State} {m : MethodId} {args : Array Value} {below : List Frame} {meth : Method} {c : Code} {Qw : State → Prop} {H : Heap} {locs : List Loc} {lsC : Array Slot} {cells slots : Nat} {ad : Nat → Nat → Nat} {L : List (Nat × Nat)} {mid pc : Nat} {ls : List (Option am_V)} {t : List am_V} {M : am_M} {q : Nat} {i : Int32} (hd : decode (am_by mid) pc = .ok (.iaload, 1)) (hi9 : ¬ (i < 0 ∨ M.2.2.2.1 96 q ≤ i.toNatClampNeg)) (Z : am_Ho D cs sa fm b0 xs Ls p l e R s m args below meth c H locs lsC cells slots ad L mid ls (.inl i :: .inr (.inr (some (96, q))) :: t) M) (K : am_KK D cs sa fm b0 xs Ls p l e R s m args below meth c Qw mid cells slots M ad L (pc + 1) (ls) (.inl (M.1 96 q i.toNatClampNeg) :: t) (M)) : W p l e R s m args below meth c H locs cells slots Qw (F0 m pc lsC ((.inl i :: .inr (.inr (some (96, q))) :: t).map (am_cv sa fm ad))) := by
  obtain ⟨⟨hx, hb, hml, hown, hts, hr, hlk, hin⟩, hS, hR, hW, hL, hT⟩ := id Z
  have hq : q = 0 := by have := am_oh (am_ot hT); simpa [am_okv, am_okr] using this
  subst hq
  obtain ⟨-, -, -, -, -, -, -, -, -, -, h11, h12⟩ := hS
  show W p l e R s m args below meth c H locs cells slots Qw (F0 m pc lsC (.int i :: am_cv sa fm ad (.inr (.inr (some (96, 0)))) :: t.map (am_cv sa fm ad)))
  rw [am_cv_x (by omega) (by omega)]
  rw [hW.2.2.2.2.2.2.2] at hi9
  refine va_sld hx hb h11 (by omega) (A := fun q => b0 ≤ q) (show ¬ b0 ≤ sa 96 0 by omega) hW.2.2.1 hi9 hd ?_
  have := am_k0 Z K (am_oc trivial (am_ot (am_ot hT)))
  rw [hW.2.2.2.2.2.2.1] at this
  exact this
set_option maxRecDepth 100000 in
theorem sd_iald97 {D : va_G} {cs : Nat → ClassId} {sa : Nat → Nat → Nat} {fm : Option Nat} {b0 : Nat} {xs : Nat → Int32} {Ls : Nat} {p : Program} {l : Launch} {e : Env} {R : Room} {s : State} {m : MethodId} {args : Array Value} {below : List Frame} {meth : Method} {c : Code} {Qw : State → Prop} {H : Heap} {locs : List Loc} {lsC : Array Slot} {cells slots : Nat} {ad : Nat → Nat → Nat} {L : List (Nat × Nat)} {mid pc : Nat} {ls : List (Option am_V)} {t : List am_V} {M : am_M} {q : Nat} {i : Int32} (hd : decode (am_by mid) pc = .ok (.iaload, 1)) (hi9 : ¬ (i < 0 ∨ 6 ≤ i.toNatClampNeg)) (Z : am_Ho D cs sa fm b0 xs Ls p l e R s m args below meth c H locs lsC cells slots ad L mid ls (.inl i :: .inr (.inr (some (97, q))) :: t) M) (K : am_KK D cs sa fm b0 xs Ls p l e R s m args below meth c Qw mid cells slots M ad L (pc + 1) (ls) (.inl (am_c97.getD i.toNatClampNeg 0) :: t) (M)) : W p l e R s m args below meth c H locs cells slots Qw (F0 m pc lsC ((.inl i :: .inr (.inr (some (97, q))) :: t).map (am_cv sa fm ad))) := by
  obtain ⟨⟨hx, hb, hml, hown, hts, hr, hlk, hin⟩, hS, hR, hW, hL, hT⟩ := id Z
  have hq : q = 0 := by have := am_oh (am_ot hT); simpa [am_okv, am_okr] using this
  subst hq
  obtain ⟨-, -, -, -, -, -, h7, h8, -⟩ := hS
  show W p l e R s m args below meth c H locs cells slots Qw (F0 m pc lsC (.int i :: am_cv sa fm ad (.inr (.inr (some (97, 0)))) :: t.map (am_cv sa fm ad)))
  rw [am_cv_x (by omega) (by omega)]
  exact va_ti hx hb h7 hW.2.2.1 hi9 rfl hd (am_k0 Z K (am_oc trivial (am_ot (am_ot hT))))
set_option maxRecDepth 100000 in
theorem sd_iald98 {D : va_G} {cs : Nat → ClassId} {sa : Nat → Nat → Nat} {fm : Option Nat} {b0 : Nat} {xs : Nat → Int32} {Ls : Nat} {p : Program} {l : Launch} {e : Env} {R : Room} {s : State} {m : MethodId} {args : Array Value} {below : List Frame} {meth : Method} {c : Code} {Qw : State → Prop} {H : Heap} {locs : List Loc} {lsC : Array Slot} {cells slots : Nat} {ad : Nat → Nat → Nat} {L : List (Nat × Nat)} {mid pc : Nat} {ls : List (Option am_V)} {t : List am_V} {M : am_M} {q : Nat} {i : Int32} (hd : decode (am_by mid) pc = .ok (.iaload, 1)) (hi9 : ¬ (i < 0 ∨ 9 ≤ i.toNatClampNeg)) (Z : am_Ho D cs sa fm b0 xs Ls p l e R s m args below meth c H locs lsC cells slots ad L mid ls (.inl i :: .inr (.inr (some (98, q))) :: t) M) (K : am_KK D cs sa fm b0 xs Ls p l e R s m args below meth c Qw mid cells slots M ad L (pc + 1) (ls) (.inl (am_c98.getD i.toNatClampNeg 0) :: t) (M)) : W p l e R s m args below meth c H locs cells slots Qw (F0 m pc lsC ((.inl i :: .inr (.inr (some (98, q))) :: t).map (am_cv sa fm ad))) := by
  obtain ⟨⟨hx, hb, hml, hown, hts, hr, hlk, hin⟩, hS, hR, hW, hL, hT⟩ := id Z
  have hq : q = 0 := by have := am_oh (am_ot hT); simpa [am_okv, am_okr] using this
  subst hq
  obtain ⟨-, -, -, -, -, -, h7, h8, -⟩ := hS
  show W p l e R s m args below meth c H locs cells slots Qw (F0 m pc lsC (.int i :: am_cv sa fm ad (.inr (.inr (some (98, 0)))) :: t.map (am_cv sa fm ad)))
  rw [am_cv_x (by omega) (by omega)]
  exact va_ti hx hb h8 hW.2.2.1 hi9 rfl hd (am_k0 Z K (am_oc trivial (am_ot (am_ot hT))))
set_option maxRecDepth 100000 in
theorem sd_bald {D : va_G} {cs : Nat → ClassId} {sa : Nat → Nat → Nat} {fm : Option Nat} {b0 : Nat} {xs : Nat → Int32} {Ls : Nat} {p : Program} {l : Launch} {e : Env} {R : Room} {s : State} {m : MethodId} {args : Array Value} {below : List Frame} {meth : Method} {c : Code} {Qw : State → Prop} {H : Heap} {locs : List Loc} {lsC : Array Slot} {cells slots : Nat} {ad : Nat → Nat → Nat} {L : List (Nat × Nat)} {mid pc : Nat} {ls : List (Option am_V)} {t : List am_V} {M : am_M} {q : Nat} {i : Int32} (hd : decode (am_by mid) pc = .ok (.baload, 1)) (hi9 : ¬ (i < 0 ∨ (am_c99.getD q []).length ≤ i.toNatClampNeg)) (Z : am_Ho D cs sa fm b0 xs Ls p l e R s m args below meth c H locs lsC cells slots ad L mid ls (.inl i :: .inr (.inr (some (99, q))) :: t) M) (K : am_KK D cs sa fm b0 xs Ls p l e R s m args below meth c Qw mid cells slots M ad L (pc + 1) (ls) (.inl ((am_c99.getD q []).getD i.toNatClampNeg 0) :: t) (M)) : W p l e R s m args below meth c H locs cells slots Qw (F0 m pc lsC ((.inl i :: .inr (.inr (some (99, q))) :: t).map (am_cv sa fm ad))) := by
  obtain ⟨⟨hx, hb, hml, hown, hts, hr, hlk, hin⟩, hS, hR, hW, hL, hT⟩ := id Z
  have hq : q < 7 := by have := am_oh (am_ot hT); simpa [am_okv, am_okr] using this
  obtain ⟨-, -, -, -, h5, -⟩ := hS
  show W p l e R s m args below meth c H locs cells slots Qw (F0 m pc lsC (.int i :: am_cv sa fm ad (.inr (.inr (some (99, q)))) :: t.map (am_cv sa fm ad)))
  rw [am_cv_x (by omega) (by omega)]
  exact va_tb hx hb (h5.1 q hq).2.2.2 hW.2.2.1 (show vp_in i _ by rw [am_c99_len q hq]; exact hi9) rfl hd (am_k0 Z K (am_oc trivial (am_ot (am_ot hT))))
set_option maxRecDepth 100000 in
theorem sd_alen {D : va_G} {cs : Nat → ClassId} {sa : Nat → Nat → Nat} {fm : Option Nat} {b0 : Nat} {xs : Nat → Int32} {Ls : Nat} {p : Program} {l : Launch} {e : Env} {R : Room} {s : State} {m : MethodId} {args : Array Value} {below : List Frame} {meth : Method} {c : Code} {Qw : State → Prop} {H : Heap} {locs : List Loc} {lsC : Array Slot} {cells slots : Nat} {ad : Nat → Nat → Nat} {L : List (Nat × Nat)} {mid pc : Nat} {ls : List (Option am_V)} {t : List am_V} {M : am_M} {g q : Nat} (hd : decode (am_by mid) pc = .ok (.arraylength, 1)) (h1 : 16 ≤ g) (h2 : g ≤ 79) (Z : am_Ho D cs sa fm b0 xs Ls p l e R s m args below meth c H locs lsC cells slots ad L mid ls (.inr (.inr (some (g, q))) :: t) M) (K : am_KK D cs sa fm b0 xs Ls p l e R s m args below meth c Qw mid cells slots M ad L (pc + 1) (ls) (.inl (Int32.ofNat (M.2.2.2.1 g q)) :: t) (M)) : W p l e R s m args below meth c H locs cells slots Qw (F0 m pc lsC ((.inr (.inr (some (g, q))) :: t).map (am_cv sa fm ad))) := by
  obtain ⟨⟨hx, hb, hml, hown, hts, hr, hlk, hin⟩, hS, hR, hW, hL, hT⟩ := id Z
  have hi : (g, q) ∈ L := am_okr_in (am_oh hT) (by omega)
  obtain ⟨q0, hq0, hq1⟩ := am_ws_at (cs := cs) (ad := ad) (M := M) hi
  rw [am_ce_i h1 h2] at hq1
  show W p l e R s m args below meth c H locs cells slots Qw (F0 m pc lsC (am_cv sa fm ad (.inr (.inr (some (g, q)))) :: t.map (am_cv sa fm ad)))
  rw [am_cv_r (by omega)]
  exact va_alen hx hb hS.1 hW.1 q0 0 hq1 rfl rfl hd (am_k0 Z K (am_oc trivial (am_ot hT)))
set_option maxRecDepth 100000 in
theorem sd_alen96 {D : va_G} {cs : Nat → ClassId} {sa : Nat → Nat → Nat} {fm : Option Nat} {b0 : Nat} {xs : Nat → Int32} {Ls : Nat} {p : Program} {l : Launch} {e : Env} {R : Room} {s : State} {m : MethodId} {args : Array Value} {below : List Frame} {meth : Method} {c : Code} {Qw : State → Prop} {H : Heap} {locs : List Loc} {lsC : Array Slot} {cells slots : Nat} {ad : Nat → Nat → Nat} {L : List (Nat × Nat)} {mid pc : Nat} {ls : List (Option am_V)} {t : List am_V} {M : am_M} {q : Nat} (hd : decode (am_by mid) pc = .ok (.arraylength, 1)) (Z : am_Ho D cs sa fm b0 xs Ls p l e R s m args below meth c H locs lsC cells slots ad L mid ls (.inr (.inr (some (96, q))) :: t) M) (K : am_KK D cs sa fm b0 xs Ls p l e R s m args below meth c Qw mid cells slots M ad L (pc + 1) (ls) (.inl (Int32.ofNat (M.2.2.2.1 96 q)) :: t) (M)) : W p l e R s m args below meth c H locs cells slots Qw (F0 m pc lsC ((.inr (.inr (some (96, q))) :: t).map (am_cv sa fm ad))) := by
  obtain ⟨⟨hx, hb, hml, hown, hts, hr, hlk, hin⟩, hS, hR, hW, hL, hT⟩ := id Z
  have hq : q = 0 := by have := am_oh hT; simpa [am_okv, am_okr] using this
  subst hq
  obtain ⟨-, -, -, -, -, -, -, -, -, -, h11, h12⟩ := hS
  show W p l e R s m args below meth c H locs cells slots Qw (F0 m pc lsC (am_cv sa fm ad (.inr (.inr (some (96, 0)))) :: t.map (am_cv sa fm ad)))
  rw [am_cv_x (by omega) (by omega)]
  refine va_slen hx hb h11 (by omega) (A := fun q => b0 ≤ q) (show ¬ b0 ≤ sa 96 0 by omega) hW.2.2.1 hd ?_
  have := am_k0 Z K (am_oc trivial (am_ot hT))
  rw [hW.2.2.2.2.2.2.2] at this
  exact this
set_option maxRecDepth 100000 in
theorem sd_alen99 {D : va_G} {cs : Nat → ClassId} {sa : Nat → Nat → Nat} {fm : Option Nat} {b0 : Nat} {xs : Nat → Int32} {Ls : Nat} {p : Program} {l : Launch} {e : Env} {R : Room} {s : State} {m : MethodId} {args : Array Value} {below : List Frame} {meth : Method} {c : Code} {Qw : State → Prop} {H : Heap} {locs : List Loc} {lsC : Array Slot} {cells slots : Nat} {ad : Nat → Nat → Nat} {L : List (Nat × Nat)} {mid pc : Nat} {ls : List (Option am_V)} {t : List am_V} {M : am_M} {q : Nat} (hd : decode (am_by mid) pc = .ok (.arraylength, 1)) (Z : am_Ho D cs sa fm b0 xs Ls p l e R s m args below meth c H locs lsC cells slots ad L mid ls (.inr (.inr (some (99, q))) :: t) M) (K : am_KK D cs sa fm b0 xs Ls p l e R s m args below meth c Qw mid cells slots M ad L (pc + 1) (ls) (.inl (Int32.ofNat (am_c99.getD q []).length) :: t) (M)) : W p l e R s m args below meth c H locs cells slots Qw (F0 m pc lsC ((.inr (.inr (some (99, q))) :: t).map (am_cv sa fm ad))) := by
  obtain ⟨⟨hx, hb, hml, hown, hts, hr, hlk, hin⟩, hS, hR, hW, hL, hT⟩ := id Z
  have hq : q < 7 := by have := am_oh hT; simpa [am_okv, am_okr] using this
  obtain ⟨-, -, -, -, h5, -⟩ := hS
  show W p l e R s m args below meth c H locs cells slots Qw (F0 m pc lsC (am_cv sa fm ad (.inr (.inr (some (99, q)))) :: t.map (am_cv sa fm ad)))
  rw [am_cv_x (by omega) (by omega)]
  exact va_tlen hx hb (h5.1 q hq).2.2.2 hW.2.2.1 (by rw [am_c99_len q hq]) hd (am_k0 Z K (am_oc trivial (am_ot hT)))
set_option maxRecDepth 100000 in
theorem sd_iast {D : va_G} {cs : Nat → ClassId} {sa : Nat → Nat → Nat} {fm : Option Nat} {b0 : Nat} {xs : Nat → Int32} {Ls : Nat} {p : Program} {l : Launch} {e : Env} {R : Room} {s : State} {m : MethodId} {args : Array Value} {below : List Frame} {meth : Method} {c : Code} {Qw : State → Prop} {H : Heap} {locs : List Loc} {lsC : Array Slot} {cells slots : Nat} {ad : Nat → Nat → Nat} {L : List (Nat × Nat)} {mid pc : Nat} {ls : List (Option am_V)} {t : List am_V} {M : am_M} {g q : Nat} {i x : Int32} (hd : decode (am_by mid) pc = .ok (.iastore, 1)) (h1 : 16 ≤ g) (h2 : g ≤ 79) (hi9 : ¬ (i < 0 ∨ M.2.2.2.1 g q ≤ i.toNatClampNeg)) (Z : am_Ho D cs sa fm b0 xs Ls p l e R s m args below meth c H locs lsC cells slots ad L mid ls (.inl x :: .inl i :: .inr (.inr (some (g, q))) :: t) M) (K : am_KK D cs sa fm b0 xs Ls p l e R s m args below meth c Qw mid cells slots M ad L (pc + 1) (ls) (t) (am_sI M g q i.toNatClampNeg x)) : W p l e R s m args below meth c H locs cells slots Qw (F0 m pc lsC ((.inl x :: .inl i :: .inr (.inr (some (g, q))) :: t).map (am_cv sa fm ad))) := by
  obtain ⟨⟨hx, hb, hml, hown, hts, hr, hlk, hin⟩, hS, hR, hW, hL, hT⟩ := id Z
  have hi : (g, q) ∈ L := am_okr_in (am_oh (am_ot (am_ot hT))) (by omega)
  obtain ⟨q0, hq0, hq1⟩ := am_ws_at (cs := cs) (ad := ad) (M := M) hi
  rw [am_ce_i h1 h2] at hq1
  show W p l e R s m args below meth c H locs cells slots Qw (F0 m pc lsC (.int x :: .int i :: am_cv sa fm ad (.inr (.inr (some (g, q)))) :: t.map (am_cv sa fm ad)))
  rw [am_cv_r (by omega)]
  refine va_iast hx hb hS.1 hW.1 hW.2.1 hW.2.2.1 q0 0 hq1 rfl hi9 hd (fun H1 locs1 g1 g2 g3 => ?_)
  rw [am_ws_set (M' := am_sI M g q i.toNatClampNeg x) (q := (g, q)) hq0 hW.2.2.2.1 (by rw [am_ce_i h1 h2, am_sI_at]; rfl) (fun q' hq' hne => am_ce_xt (am_sI_ne hne) rfl rfl (fun _ _ _ => rfl))] at g1 g2
  exact K H1 locs1 lsC ad L cells slots rfl rfl am_xt_rf ⟨g1, g2, g3, am_wf_sI hW.2.2.2 (by omega)⟩ hL (am_ot (am_ot (am_ot hT)))
set_option maxRecDepth 100000 in
theorem sd_aald {D : va_G} {cs : Nat → ClassId} {sa : Nat → Nat → Nat} {fm : Option Nat} {b0 : Nat} {xs : Nat → Int32} {Ls : Nat} {p : Program} {l : Launch} {e : Env} {R : Room} {s : State} {m : MethodId} {args : Array Value} {below : List Frame} {meth : Method} {c : Code} {Qw : State → Prop} {H : Heap} {locs : List Loc} {lsC : Array Slot} {cells slots : Nat} {ad : Nat → Nat → Nat} {L : List (Nat × Nat)} {mid pc : Nat} {ls : List (Option am_V)} {t : List am_V} {M : am_M} {g q : Nat} {i : Int32} (hd : decode (am_by mid) pc = .ok (.aaload, 1)) (h1 : 80 ≤ g) (h2 : g ≤ 83) (hi9 : ¬ (i < 0 ∨ M.2.2.2.1 g q ≤ i.toNatClampNeg)) (Z : am_Ho D cs sa fm b0 xs Ls p l e R s m args below meth c H locs lsC cells slots ad L mid ls (.inl i :: .inr (.inr (some (g, q))) :: t) M) (K : am_KK D cs sa fm b0 xs Ls p l e R s m args below meth c Qw mid cells slots M ad L (pc + 1) (ls) (.inr (.inr (M.2.1 g q i.toNatClampNeg)) :: t) (M)) : W p l e R s m args below meth c H locs cells slots Qw (F0 m pc lsC ((.inl i :: .inr (.inr (some (g, q))) :: t).map (am_cv sa fm ad))) := by
  obtain ⟨⟨hx, hb, hml, hown, hts, hr, hlk, hin⟩, hS, hR, hW, hL, hT⟩ := id Z
  have hi : (g, q) ∈ L := am_okr_in (am_oh (am_ot hT)) (by omega)
  obtain ⟨q0, hq0, hq1⟩ := am_ws_at (cs := cs) (ad := ad) (M := M) hi
  rw [am_ce_r h1] at hq1
  have h3 : ∀ z, M.2.1 g q i.toNatClampNeg = some z → z ∈ L := fun z hz => hW.2.2.2.2.2.1 g q _ z hi hz
  show W p l e R s m args below meth c H locs cells slots Qw (F0 m pc lsC (.int i :: am_cv sa fm ad (.inr (.inr (some (g, q)))) :: t.map (am_cv sa fm ad)))
  rw [am_cv_r (by omega)]
  refine va_aldq hx hb hS.1 hW.1 q0 (g - 79) hq1 (am_tys_at cs g h1 h2) hi9 hd ?_
  have := am_k0 Z K (am_oc (am_okr_mem hW.2.2.2 h3) (am_ot (am_ot hT)))
  rw [List.map_cons, show am_cv sa fm ad (.inr (.inr (M.2.1 g q i.toNatClampNeg))) = va_rf ((M.2.1 g q i.toNatClampNeg).map (fun r => ad r.1 r.2)) from am_rv_in hW.2.2.2 h3] at this
  exact this
set_option maxRecDepth 100000 in
theorem sd_aast {D : va_G} {cs : Nat → ClassId} {sa : Nat → Nat → Nat} {fm : Option Nat} {b0 : Nat} {xs : Nat → Int32} {Ls : Nat} {p : Program} {l : Launch} {e : Env} {R : Room} {s : State} {m : MethodId} {args : Array Value} {below : List Frame} {meth : Method} {c : Code} {Qw : State → Prop} {H : Heap} {locs : List Loc} {lsC : Array Slot} {cells slots : Nat} {ad : Nat → Nat → Nat} {L : List (Nat × Nat)} {mid pc : Nat} {ls : List (Option am_V)} {t : List am_V} {M : am_M} {g q kr : Nat} {i : Int32} (hd : decode (am_by mid) pc = .ok (.aastore, 1)) (h1 : 80 ≤ g) (h2 : g ≤ 83) (hi9 : ¬ (i < 0 ∨ M.2.2.2.1 g q ≤ i.toNatClampNeg)) (Z : am_Ho D cs sa fm b0 xs Ls p l e R s m args below meth c H locs lsC cells slots ad L mid ls (.inr (.inr (some (am_ge g, kr))) :: .inl i :: .inr (.inr (some (g, q))) :: t) M) (K : am_KK D cs sa fm b0 xs Ls p l e R s m args below meth c Qw mid cells slots M ad L (pc + 1) (ls) (t) (am_sR M g q i.toNatClampNeg (some (am_ge g, kr)))) : W p l e R s m args below meth c H locs cells slots Qw (F0 m pc lsC ((.inr (.inr (some (am_ge g, kr))) :: .inl i :: .inr (.inr (some (g, q))) :: t).map (am_cv sa fm ad))) := by
  obtain ⟨⟨hx, hb, hml, hown, hts, hr, hlk, hin⟩, hS, hR, hW, hL, hT⟩ := id Z
  have hi : (g, q) ∈ L := am_okr_in (am_oh (am_ot (am_ot hT))) (by omega)
  have hge := am_ge_le g
  have hv : (am_ge g, kr) ∈ L := am_okr_in (am_oh hT) (by omega)
  obtain ⟨q0, hq0, hq1⟩ := am_ws_at (cs := cs) (ad := ad) (M := M) hi
  rw [am_ce_r h1] at hq1
  obtain ⟨q2, hq2, hq3⟩ := am_ws_at (cs := cs) (ad := ad) (M := M) hv
  rw [am_ce_o hge] at hq3
  show W p l e R s m args below meth c H locs cells slots Qw (F0 m pc lsC (am_cv sa fm ad (.inr (.inr (some (am_ge g, kr)))) :: .int i :: am_cv sa fm ad (.inr (.inr (some (g, q)))) :: t.map (am_cv sa fm ad)))
  rw [am_cv_r (by omega), am_cv_r (by omega)]
  have hset : (am_ws cs ad M L).set q0 (ad g q, .inl (cs (1 + am_ge g), M.2.2.2.1 g q, .inr (.inr (.inr (.inr (va_up (fun i => (M.2.1 g q i).map (fun r => ad r.1 r.2)) i.toNatClampNeg (some (ad (am_ge g) kr)))))))) = am_ws cs ad (am_sR M g q i.toNatClampNeg (some (am_ge g, kr))) L := by
    refine am_ws_set (q := (g, q)) hq0 hW.2.2.2.1 ?_ (fun q' hq' hne => am_ce_xt rfl (am_sR_ne hne) rfl (fun _ _ _ => rfl))
    rw [am_ce_r h1, am_sR_at]
    congr 7
    funext j
    show Option.map _ (if j = i.toNatClampNeg then _ else _) = if j = i.toNatClampNeg then _ else _
    split <;> rfl
  refine va_astq hx hb hS.1 hW.1 hW.2.1 hW.2.2.1 q0 (g - 79) q2 (am_ge g) (r := (am_R (am_ge g), am_T (am_ge g), am_N (am_ge g))) hq1 (am_tys_at cs g h1 h2) hq3 (am_cl_at _ hge) hi9 hd (fun H1 locs1 g1 g2 g3 => ?_)
  exact K H1 locs1 lsC ad L cells slots rfl rfl am_xt_rf ⟨(congrArg (fun w => va_P D am_cl w H1) hset).mp g1, (congrArg (fun w => va_D (fun q => b0 ≤ q) w) hset).mp g2, g3, am_wf_sR hW.2.2.2 (fun z hz => by cases hz; exact hv)⟩ hL (am_ot (am_ot (am_ot hT)))
theorem am_prs_cg {f f' : am_V → Value} : ∀ {ls : List (Option am_V)} {i : Nat}, (∀ v, some v ∈ ls → f' v = f v) → am_prs f' i ls = am_prs f i ls
  | [], _, _ => rfl
  | none :: l, i, h => am_prs_cg (ls := l) (i := i + 1) (fun v hv => h v (List.mem_cons_of_mem _ hv))
  | some w :: l, i, h => by
    show (i, f' w) :: am_prs f' (i + 1) l = (i, f w) :: am_prs f (i + 1) l
    rw [h w List.mem_cons_self, am_prs_cg (ls := l) (i := i + 1) (fun v hv => h v (List.mem_cons_of_mem _ hv))]
theorem am_prs_xt {sa : Nat → Nat → Nat} {fm : Option Nat} {L L1 : List (Nat × Nat)} {ad ad1 : Nat → Nat → Nat} {ls : List (Option am_V)} (h : am_xt L L1 ad ad1) (hv : ∀ v, some v ∈ ls → am_okv L v) {z : Nat × Value} (hz : z ∈ am_prs (am_cv sa fm ad1) 0 ls) : z ∈ am_prs (am_cv sa fm ad) 0 ls := by
  rw [am_prs_cg (f := am_cv sa fm ad) (fun v h2 => am_cv_xt h (hv v h2))] at hz
  exact hz
set_option maxRecDepth 100000 in
theorem sd_new {D : va_G} {cs : Nat → ClassId} {sa : Nat → Nat → Nat} {fm : Option Nat} {b0 : Nat} {xs : Nat → Int32} {Ls : Nat} {p : Program} {l : Launch} {e : Env} {R : Room} {s : State} {m : MethodId} {args : Array Value} {below : List Frame} {meth : Method} {c : Code} {Qw : State → Prop} {H : Heap} {locs : List Loc} {lsC : Array Slot} {cells slots : Nat} {ad : Nat → Nat → Nat} {L : List (Nat × Nat)} {mid pc : Nat} {ls : List (Option am_V)} {t : List am_V} {M : am_M} {n a w : Nat} (hd : decode (am_by mid) pc = .ok (.new n, 3)) (ha : a ≤ 8) (hk : am_wd w (.classLink (am_own mid) n (am_R a)) = true) (hc1 : cells + 1 ≤ R.cells) (hs1 : slots + am_N a ≤ R.slots) (Z : am_Ho D cs sa fm b0 xs Ls p l e R s m args below meth c H locs lsC cells slots ad L mid ls (t) M) (K : am_KK D cs sa fm b0 xs Ls p l e R s m args below meth c Qw mid cells slots M ad L (pc + 3) (ls) (.inr (.inr (some (a, M.2.2.1 a))) :: t) (am_new M a 0 (am_N a))) : W p l e R s m args below meth c H locs cells slots Qw (F0 m pc lsC ((t).map (am_cv sa fm ad))) := by
  obtain ⟨⟨hx, hb, hml, hown, hts, hr, hlk, hin⟩, hS, hR, hW, hL, hT⟩ := id Z
  refine va_new (D := D) (cl := am_cl) (ci := a) (C := am_R a) (T := am_T a) (N := am_N a) (fs := (List.range (am_N a)).map (fun j => if am_fk a j = 1 then Value.null else .int 0)) hx hb hts (am_uws ha) (am_ty a) (am_ty_ok ha) hown (hts _ (am_gw_in hk rfl)) (hts _ (am_gw_in (am_wK_ok ha).1 rfl)) (hts _ (am_gw_in (am_wK_ok ha).2 rfl)) hS.1 hW.1 hW.2.1 hW.2.2.1 (fun q hq => Nat.le_trans hR.1 hq) (am_cl_at a ha) (fun j hj => ?_) hc1 hs1 hd (fun q H1 g1 g2 g3 => ?_)
  · unfold vp_V
    rw [am_df_ok ha hj, List.getD_eq_getElem?_getD, List.getElem?_map, List.getElem?_range hj]
    rfl
  obtain ⟨ad1, L1, z1, z2, z3, z4, z5⟩ := am_new_w (cs := cs) (ad := ad) (g := a) (n := 0) (sl := am_N a) (q := q) (e := .inr (a, (List.range (am_N a)).map (fun j => if am_fk a j = 1 then Value.null else .int 0))) hW.2.2.2 (by omega) (fun ad1 => by
    rw [am_ce_o ha]
    congr 2
    apply List.map_congr_left
    intro j _
    unfold am_fv
    rw [am_new_at.1, am_new_at.2.1]
    rfl)
  rw [z2] at g1 g2
  have := K H1 locs lsC ad1 L1 (cells + 1) (slots + am_N a) (by show cells + 1 + M.2.2.2.2.1 = cells + (M.2.2.2.2.1 + 1); omega) (by show slots + am_N a + M.2.2.2.2.2 = slots + (M.2.2.2.2.2 + am_N a); omega) z1 ⟨g1, g2, g3, z3⟩ ⟨am_lvm hL.1 (fun z hz => ?_), hL.2.1, fun v hv => am_okv_mono (fun q hq => (z1 q hq).1) (hL.2.2 v hv)⟩ (am_oc (am_okr_of z5 (by show a ≤ 95; omega)) (fun v hv => am_okv_mono (fun q hq => (z1 q hq).1) (hT v hv)))
  · rw [List.map_cons, am_cv_r (show a ≤ 95 by omega), z4, am_map_xt z1 hT] at this
    exact this
  · exact am_prs_xt z1 hL.2.2 hz
set_option maxRecDepth 100000 in
theorem sd_newa {D : va_G} {cs : Nat → ClassId} {sa : Nat → Nat → Nat} {fm : Option Nat} {b0 : Nat} {xs : Nat → Int32} {Ls : Nat} {p : Program} {l : Launch} {e : Env} {R : Room} {s : State} {m : MethodId} {args : Array Value} {below : List Frame} {meth : Method} {c : Code} {Qw : State → Prop} {H : Heap} {locs : List Loc} {lsC : Array Slot} {cells slots : Nat} {ad : Nat → Nat → Nat} {L : List (Nat × Nat)} {mid pc : Nat} {ls : List (Option am_V)} {t : List am_V} {M : am_M} {a : Nat} {n : Int32} (hd : decode (am_by mid) pc = .ok (.newarray .int, 2)) (ha : 16 ≤ a) (ha2 : a ≤ 79) (hn : ¬ n < 0) (hn4 : n.toNatClampNeg * 4 ≤ 536870912) (hc1 : cells + 1 ≤ R.cells) (hs1 : slots + n.toNatClampNeg ≤ R.slots) (Z : am_Ho D cs sa fm b0 xs Ls p l e R s m args below meth c H locs lsC cells slots ad L mid ls (.inl n :: t) M) (K : am_KK D cs sa fm b0 xs Ls p l e R s m args below meth c Qw mid cells slots M ad L (pc + 2) (ls) (.inr (.inr (some (a, M.2.2.1 a))) :: t) (am_new M a n.toNatClampNeg n.toNatClampNeg)) : W p l e R s m args below meth c H locs cells slots Qw (F0 m pc lsC ((.inl n :: t).map (am_cv sa fm ad))) := by
  obtain ⟨⟨hx, hb, hml, hown, hts, hr, hlk, hin⟩, hS, hR, hW, hL, hT⟩ := id Z
  have hN : (am_tys cs)[0]? = some (cs 0, .int) := rfl
  refine va_newa (D := D) (cl := am_cl) (atype := .int) hx hb (hts (.arrayClass .int) (am_gw_at (w := 134) rfl rfl)) (ty := .int) rfl hS.1 hW.1 hW.2.1 hW.2.2.1 (fun q hq => Nat.le_trans hR.1 hq) (n := n) (N' := n.toNatClampNeg) (a0 := (n.toNatClampNeg, .inl (fun _ => 0))) (fun cA => rfl) hn rfl (show n.toNatClampNeg * 4 ≤ 536870912 from hn4) hc1 hs1 hd (fun q cA H1 hK9 g1 g2 g3 => ?_)
  have hcA : cA = cs 0 := by
    have e1 : s.vm.findClass ("[" ++ (FieldType.int).toString) = some (cs 0) := (hS.1.2 0 _ rfl).2
    have e2 : s.vm.findClass ("[" ++ (FieldType.int).toString) = some cA := (hK9.2 5 _ rfl).2
    exact Option.some.inj (e2.symm.trans e1)
  subst hcA
  obtain ⟨ad1, L1, z1, z2, z3, z4, z5⟩ := am_new_w (cs := cs) (ad := ad) (g := a) (n := n.toNatClampNeg) (sl := n.toNatClampNeg) (q := q) (e := .inl (cs 0, n.toNatClampNeg, .inl (fun _ => 0))) hW.2.2.2 (by omega) (fun ad1 => by rw [am_ce_i ha ha2, am_new_at.1, am_new_at.2.2])
  rw [z2] at g1 g2
  have := K H1 locs lsC ad1 L1 (cells + 1) (slots + n.toNatClampNeg) (by show cells + 1 + M.2.2.2.2.1 = cells + (M.2.2.2.2.1 + 1); omega) (by show slots + n.toNatClampNeg + M.2.2.2.2.2 = slots + (M.2.2.2.2.2 + n.toNatClampNeg); omega) z1 ⟨g1, g2, g3, z3⟩ ⟨am_lvm hL.1 (fun z hz => ?_), hL.2.1, fun v hv => am_okv_mono (fun q hq => (z1 q hq).1) (hL.2.2 v hv)⟩ (am_oc (am_okr_of z5 (by show a ≤ 95; omega)) (fun v hv => am_okv_mono (fun q hq => (z1 q hq).1) ((am_ot hT) v hv)))
  · rw [List.map_cons, am_cv_r (show a ≤ 95 by omega), z4, am_map_xt z1 (am_ot hT)] at this
    exact this
  · exact am_prs_xt z1 hL.2.2 hz
set_option maxRecDepth 100000 in
theorem sd_newq {D : va_G} {cs : Nat → ClassId} {sa : Nat → Nat → Nat} {fm : Option Nat} {b0 : Nat} {xs : Nat → Int32} {Ls : Nat} {p : Program} {l : Launch} {e : Env} {R : Room} {s : State} {m : MethodId} {args : Array Value} {below : List Frame} {meth : Method} {c : Code} {Qw : State → Prop} {H : Heap} {locs : List Loc} {lsC : Array Slot} {cells slots : Nat} {ad : Nat → Nat → Nat} {L : List (Nat × Nat)} {mid pc : Nat} {ls : List (Option am_V)} {t : List am_V} {M : am_M} {a w ix : Nat} {n : Int32} (hd : decode (am_by mid) pc = .ok (.anewarray ix, 3)) (ha : 80 ≤ a) (ha2 : a ≤ 83) (hk : am_wd w (.classLink (am_own mid) ix (am_R (am_ge a))) = true) (hn : ¬ n < 0) (hn4 : n.toNatClampNeg * 4 ≤ 536870912) (hc1 : cells + 1 ≤ R.cells) (hs1 : slots + n.toNatClampNeg ≤ R.slots) (Z : am_Ho D cs sa fm b0 xs Ls p l e R s m args below meth c H locs lsC cells slots ad L mid ls (.inl n :: t) M) (K : am_KK D cs sa fm b0 xs Ls p l e R s m args below meth c Qw mid cells slots M ad L (pc + 3) (ls) (.inr (.inr (some (a, M.2.2.1 a))) :: t) (am_new M a n.toNatClampNeg n.toNatClampNeg)) : W p l e R s m args below meth c H locs cells slots Qw (F0 m pc lsC ((.inl n :: t).map (am_cv sa fm ad))) := by
  obtain ⟨⟨hx, hb, hml, hown, hts, hr, hlk, hin⟩, hS, hR, hW, hL, hT⟩ := id Z
  refine va_newq (D := D) (cl := am_cl) hx hb hown (hts _ (am_gw_in hk rfl)) (hS.2.1 a ha ha2) hS.1 hW.1 hW.2.1 hW.2.2.1 (fun q hq => Nat.le_trans hR.1 hq) (n := n) (N' := n.toNatClampNeg) hn rfl hn4 hc1 hs1 hd (fun q cA H1 hK9 g1 g2 g3 => ?_)
  have hcA : cA = cs (1 + am_ge a) := by
    obtain ⟨-, -, -, -, -, e1⟩ : va_RA s (cs (1 + am_ge a)) (.object (am_R (am_ge a))) := (hS.1.2 (a - 79) _ (am_tys_at cs a ha ha2)).2
    obtain ⟨-, -, -, -, -, e2⟩ : va_RA s cA (.object (am_R (am_ge a))) := (hK9.2 5 _ rfl).2
    exact Option.some.inj (e2.symm.trans e1)
  subst hcA
  obtain ⟨ad1, L1, z1, z2, z3, z4, z5⟩ := am_new_w (cs := cs) (ad := ad) (g := a) (n := n.toNatClampNeg) (sl := n.toNatClampNeg) (q := q) (e := .inl (cs (1 + am_ge a), n.toNatClampNeg, .inr (.inr (.inr (.inr (fun _ => none)))))) hW.2.2.2 (by omega) (fun ad1 => by rw [am_ce_r ha, am_new_at.2.1, am_new_at.2.2]; rfl)
  rw [z2] at g1 g2
  have := K H1 locs lsC ad1 L1 (cells + 1) (slots + n.toNatClampNeg) (by show cells + 1 + M.2.2.2.2.1 = cells + (M.2.2.2.2.1 + 1); omega) (by show slots + n.toNatClampNeg + M.2.2.2.2.2 = slots + (M.2.2.2.2.2 + n.toNatClampNeg); omega) z1 ⟨g1, g2, g3, z3⟩ ⟨am_lvm hL.1 (fun z hz => ?_), hL.2.1, fun v hv => am_okv_mono (fun q hq => (z1 q hq).1) (hL.2.2 v hv)⟩ (am_oc (am_okr_of z5 (by show a ≤ 95; omega)) (fun v hv => am_okv_mono (fun q hq => (z1 q hq).1) ((am_ot hT) v hv)))
  · rw [List.map_cons, am_cv_r (show a ≤ 95 by omega), z4, am_map_xt z1 (am_ot hT)] at this
    exact this
  · exact am_prs_xt z1 hL.2.2 hz
set_option maxRecDepth 100000 in
theorem sd_objinit {D : va_G} {cs : Nat → ClassId} {sa : Nat → Nat → Nat} {fm : Option Nat} {b0 : Nat} {xs : Nat → Int32} {Ls : Nat} {p : Program} {l : Launch} {e : Env} {R : Room} {s : State} {m : MethodId} {args : Array Value} {below : List Frame} {meth : Method} {c : Code} {Qw : State → Prop} {H : Heap} {locs : List Loc} {lsC : Array Slot} {cells slots : Nat} {ad : Nat → Nat → Nat} {L : List (Nat × Nat)} {mid pc : Nat} {ls : List (Option am_V)} {t : List am_V} {M : am_M} {n w : Nat} {r : Nat × Nat} (hd : decode (am_by mid) pc = .ok (.invokespecial n, 3)) (hk : am_wd w (.methodLink (am_own mid) n objectInit) = true) (hdp : am_dep t ≤ 8) (hr95 : r.1 ≤ 95) (Z : am_Ho D cs sa fm b0 xs Ls p l e R s m args below meth c H locs lsC cells slots ad L mid ls (.inr (.inr (some r)) :: t) M) (K : am_KK D cs sa fm b0 xs Ls p l e R s m args below meth c Qw mid cells slots M ad L (pc + 3) (ls) (t) (M)) : W p l e R s m args below meth c H locs cells slots Qw (F0 m pc lsC ((.inr (.inr (some r)) :: t).map (am_cv sa fm ad))) := by
  obtain ⟨⟨hx, hb, hml, hown, hts, hr, hlk, hin⟩, hS, hR, hW, hL, hT⟩ := id Z
  obtain ⟨g, q⟩ := r
  show W p l e R s m args below meth c H locs cells slots Qw (F0 m pc lsC (am_cv sa fm ad (.inr (.inr (some (g, q)))) :: t.map (am_cv sa fm ad)))
  rw [am_cv_r hr95]
  refine W.objInit hx hb hown (hts _ (am_gw_in hk rfl)) (hts (.instanceMethod objectInit) (am_gw_at (w := 79) rfl rfl)) (hts (.code objectInit ⟨#[0xb1]⟩ 1 none) (am_gw_at (w := 80) rfl rfl)) rfl (by rw [hml]; exact hL.1.1) rfl hd hR.2.1 (by rw [am_dep_c]; show 2 * 0 + am_dep t + 12 ≤ R.locals; omega) ?_
  exact am_k0 Z K (am_ot hT)
set_option maxRecDepth 100000 in
theorem sd_mmax {D : va_G} {cs : Nat → ClassId} {sa : Nat → Nat → Nat} {fm : Option Nat} {b0 : Nat} {xs : Nat → Int32} {Ls : Nat} {p : Program} {l : Launch} {e : Env} {R : Room} {s : State} {m : MethodId} {args : Array Value} {below : List Frame} {meth : Method} {c : Code} {Qw : State → Prop} {H : Heap} {locs : List Loc} {lsC : Array Slot} {cells slots : Nat} {ad : Nat → Nat → Nat} {L : List (Nat × Nat)} {mid pc : Nat} {ls : List (Option am_V)} {t : List am_V} {M : am_M} {n w : Nat} {x y : Int32} (hd : decode (am_by mid) pc = .ok (.invokestatic n, 3)) (hk : am_wd w (.methodLink (am_own mid) n Lib.Math.max.name) = true) (hdp : am_dep t ≤ 8) (Z : am_Ho D cs sa fm b0 xs Ls p l e R s m args below meth c H locs lsC cells slots ad L mid ls (.inl y :: .inl x :: t) M) (K : am_KK D cs sa fm b0 xs Ls p l e R s m args below meth c Qw mid cells slots M ad L (pc + 3) (ls) (.inl (if x < y then y else x) :: t) (M)) : W p l e R s m args below meth c H locs cells slots Qw (F0 m pc lsC ((.inl y :: .inl x :: t).map (am_cv sa fm ad))) := by
  obtain ⟨⟨hx, hb, hml, hown, hts, hr, hlk, hin⟩, hS, hR, hW, hL, hT⟩ := id Z
  exact va_mmax hx hb (by rw [hml]; exact hL.1.1.symm) hown (hts _ (am_gw_in hk rfl)) (hts (.static Lib.Math.max.name) (am_gw_at (w := 361) rfl rfl)) (hts (.initialized "java/lang/Math") (am_gw_at (w := 65) rfl rfl)) (hts (.code Lib.Math.max.name Lib.Math.max.code 2 (some .int)) (am_gw_at (w := 362) rfl rfl)) hR.2.1 (by rw [am_dep_c]; omega) hR.2.2.2.1 hR.2.2.2.2 hd (am_k0 Z K (am_oc trivial (am_ot (am_ot hT))))
set_option maxRecDepth 100000 in
theorem sd_mmin {D : va_G} {cs : Nat → ClassId} {sa : Nat → Nat → Nat} {fm : Option Nat} {b0 : Nat} {xs : Nat → Int32} {Ls : Nat} {p : Program} {l : Launch} {e : Env} {R : Room} {s : State} {m : MethodId} {args : Array Value} {below : List Frame} {meth : Method} {c : Code} {Qw : State → Prop} {H : Heap} {locs : List Loc} {lsC : Array Slot} {cells slots : Nat} {ad : Nat → Nat → Nat} {L : List (Nat × Nat)} {mid pc : Nat} {ls : List (Option am_V)} {t : List am_V} {M : am_M} {n w : Nat} {x y : Int32} (hd : decode (am_by mid) pc = .ok (.invokestatic n, 3)) (hk : am_wd w (.methodLink (am_own mid) n Lib.Math.min.name) = true) (hdp : am_dep t ≤ 8) (Z : am_Ho D cs sa fm b0 xs Ls p l e R s m args below meth c H locs lsC cells slots ad L mid ls (.inl y :: .inl x :: t) M) (K : am_KK D cs sa fm b0 xs Ls p l e R s m args below meth c Qw mid cells slots M ad L (pc + 3) (ls) (.inl (if y < x then y else x) :: t) (M)) : W p l e R s m args below meth c H locs cells slots Qw (F0 m pc lsC ((.inl y :: .inl x :: t).map (am_cv sa fm ad))) := by
  obtain ⟨⟨hx, hb, hml, hown, hts, hr, hlk, hin⟩, hS, hR, hW, hL, hT⟩ := id Z
  exact va_mmin hx hb (by rw [hml]; exact hL.1.1.symm) hown (hts _ (am_gw_in hk rfl)) (hts (.static Lib.Math.min.name) (am_gw_at (w := 395) rfl rfl)) (hts (.initialized "java/lang/Math") (am_gw_at (w := 65) rfl rfl)) (hts (.code Lib.Math.min.name Lib.Math.min.code 2 (some .int)) (am_gw_at (w := 396) rfl rfl)) hR.2.1 (by rw [am_dep_c]; omega) hR.2.2.2.1 hR.2.2.2.2 hd (am_k0 Z K (am_oc trivial (am_ot (am_ot hT))))
set_option maxRecDepth 100000 in
theorem sd_mabs {D : va_G} {cs : Nat → ClassId} {sa : Nat → Nat → Nat} {fm : Option Nat} {b0 : Nat} {xs : Nat → Int32} {Ls : Nat} {p : Program} {l : Launch} {e : Env} {R : Room} {s : State} {m : MethodId} {args : Array Value} {below : List Frame} {meth : Method} {c : Code} {Qw : State → Prop} {H : Heap} {locs : List Loc} {lsC : Array Slot} {cells slots : Nat} {ad : Nat → Nat → Nat} {L : List (Nat × Nat)} {mid pc : Nat} {ls : List (Option am_V)} {t : List am_V} {M : am_M} {n w : Nat} {x y : Int32} (hd : decode (am_by mid) pc = .ok (.invokestatic n, 3)) (hk : am_wd w (.methodLink (am_own mid) n Lib.Math.abs.name) = true) (hdp : am_dep t ≤ 8) (Z : am_Ho D cs sa fm b0 xs Ls p l e R s m args below meth c H locs lsC cells slots ad L mid ls (.inl x :: t) M) (K : am_KK D cs sa fm b0 xs Ls p l e R s m args below meth c Qw mid cells slots M ad L (pc + 3) (ls) (.inl (if 0 ≤ x then x else 0 - x) :: t) (M)) : W p l e R s m args below meth c H locs cells slots Qw (F0 m pc lsC ((.inl x :: t).map (am_cv sa fm ad))) := by
  obtain ⟨⟨hx, hb, hml, hown, hts, hr, hlk, hin⟩, hS, hR, hW, hL, hT⟩ := id Z
  exact va_mabs hx hb (by rw [hml]; exact hL.1.1.symm) hown (hts _ (am_gw_in hk rfl)) (hts (.static Lib.Math.abs.name) (am_gw_at (w := 586) rfl rfl)) (hts (.initialized "java/lang/Math") (am_gw_at (w := 65) rfl rfl)) (hts (.code Lib.Math.abs.name Lib.Math.abs.code 1 (some .int)) (am_gw_at (w := 587) rfl rfl)) hR.2.1 (by rw [am_dep_c]; omega) hR.2.2.2.1 hR.2.2.2.2 hd (am_k0 Z K (am_oc trivial (am_ot hT)))
set_option maxRecDepth 100000 in
theorem sd_acopy {D : va_G} {cs : Nat → ClassId} {sa : Nat → Nat → Nat} {fm : Option Nat} {b0 : Nat} {xs : Nat → Int32} {Ls : Nat} {p : Program} {l : Launch} {e : Env} {R : Room} {s : State} {m : MethodId} {args : Array Value} {below : List Frame} {meth : Method} {c : Code} {Qw : State → Prop} {H : Heap} {locs : List Loc} {lsC : Array Slot} {cells slots : Nat} {ad : Nat → Nat → Nat} {L : List (Nat × Nat)} {mid pc : Nat} {ls : List (Option am_V)} {t : List am_V} {M : am_M} {n w gd od gs os : Nat} {sp dp nn : Int32} (hd : decode (am_by mid) pc = .ok (.invokestatic n, 3)) (hk : am_wd w (.methodLink (am_own mid) n arraycopyName) = true) (hdp : am_dep t ≤ 8) (hd1 : 16 ≤ gd) (hd2 : gd ≤ 79) (hs1 : 16 ≤ gs) (hs2 : gs ≤ 79) (h9 : ¬ sp < 0 ∧ ¬ dp < 0 ∧ ¬ nn < 0 ∧ sp.toNatClampNeg + nn.toNatClampNeg ≤ M.2.2.2.1 gs os ∧ dp.toNatClampNeg + nn.toNatClampNeg ≤ M.2.2.2.1 gd od) (Z : am_Ho D cs sa fm b0 xs Ls p l e R s m args below meth c H locs lsC cells slots ad L mid ls (.inl nn :: .inl dp :: .inr (.inr (some (gd, od))) :: .inl sp :: .inr (.inr (some (gs, os))) :: t) M) (K : am_KK D cs sa fm b0 xs Ls p l e R s m args below meth c Qw mid cells slots M ad L (pc + 3) (ls) (t) (am_sA M gd od (va_cpy (M.1 gs os) (M.1 gd od) sp.toNatClampNeg dp.toNatClampNeg nn.toNatClampNeg))) : W p l e R s m args below meth c H locs cells slots Qw (F0 m pc lsC ((.inl nn :: .inl dp :: .inr (.inr (some (gd, od))) :: .inl sp :: .inr (.inr (some (gs, os))) :: t).map (am_cv sa fm ad))) := by
  obtain ⟨⟨hx, hb, hml, hown, hts, hr, hlk, hin⟩, hS, hR, hW, hL, hT⟩ := id Z
  have hi : (gd, od) ∈ L := am_okr_in (am_oh (am_ot (am_ot hT))) (by omega)
  have hi2 : (gs, os) ∈ L := am_okr_in (am_oh (am_ot (am_ot (am_ot (am_ot hT))))) (by omega)
  obtain ⟨q0, hq0, hq1⟩ := am_ws_at (cs := cs) (ad := ad) (M := M) hi
  rw [am_ce_i hd1 hd2] at hq1
  obtain ⟨q2, hq2, hq3⟩ := am_ws_at (cs := cs) (ad := ad) (M := M) hi2
  rw [am_ce_i hs1 hs2] at hq3
  show W p l e R s m args below meth c H locs cells slots Qw (F0 m pc lsC (.int nn :: .int dp :: am_cv sa fm ad (.inr (.inr (some (gd, od)))) :: .int sp :: am_cv sa fm ad (.inr (.inr (some (gs, os)))) :: t.map (am_cv sa fm ad)))
  rw [am_cv_r (by omega), am_cv_r (by omega)]
  have hnf : nativeFrameWords "java/lang/System" "arraycopy" 5 ≤ 30 := by decide
  refine va_copyi hx hb (by rw [hml]; exact hL.1.1.symm) hown (hts _ (am_gw_in hk rfl)) (hts (.native arraycopyName) (am_gw_at (w := 533) rfl rfl)) (hts (.static arraycopyName) (am_gw_at (w := 532) rfl rfl)) (hts (.initialized "java/lang/System") (am_gw_at (w := 67) rfl rfl)) hS.1 hW.1 hW.2.1 hW.2.2.1 q2 q0 0 0 (ty := .int) hq3 hq1 rfl rfl rfl h9.1 h9.2.1 h9.2.2.1 h9.2.2.2.1 h9.2.2.2.2 (fun _ _ => rfl) hR.2.1 (by rw [am_dep_c]; omega) hd (fun H1 locs1 g1 g2 g3 => ?_)
  rw [am_ws_set (M' := am_sA M gd od (va_cpy (M.1 gs os) (M.1 gd od) sp.toNatClampNeg dp.toNatClampNeg nn.toNatClampNeg)) (q := (gd, od)) hq0 hW.2.2.2.1 (by rw [am_ce_i hd1 hd2, am_sA_at]; rfl) (fun q' hq' hne => am_ce_xt (am_sA_ne hne) rfl rfl (fun _ _ _ => rfl))] at g1 g2
  exact K H1 locs1 lsC ad L cells slots rfl rfl am_xt_rf ⟨g1, g2, g3, am_wf_sA hW.2.2.2 (by omega)⟩ hL (am_ot (am_ot (am_ot (am_ot (am_ot hT)))))
set_option maxRecDepth 100000 in
theorem sd_gets0 {D : va_G} {cs : Nat → ClassId} {sa : Nat → Nat → Nat} {fm : Option Nat} {b0 : Nat} {xs : Nat → Int32} {Ls : Nat} {p : Program} {l : Launch} {e : Env} {R : Room} {s : State} {m : MethodId} {args : Array Value} {below : List Frame} {meth : Method} {c : Code} {Qw : State → Prop} {H : Heap} {locs : List Loc} {lsC : Array Slot} {cells slots : Nat} {ad : Nat → Nat → Nat} {L : List (Nat × Nat)} {mid pc : Nat} {ls : List (Option am_V)} {t : List am_V} {M : am_M} {n w : Nat} (hd : decode (am_by mid) pc = .ok (.getstatic n, 3)) (hk : am_wd w (.fieldLink (am_own mid) n (am_sf 0).1 (am_sf 0).2.1 (am_sf 0).2.2) = true) (Z : am_Ho D cs sa fm b0 xs Ls p l e R s m args below meth c H locs lsC cells slots ad L mid ls (t) M) (K : am_KK D cs sa fm b0 xs Ls p l e R s m args below meth c Qw mid cells slots M ad L (pc + 3) (ls) (.inr (.inr (some (97, 0))) :: t) (M)) : W p l e R s m args below meth c H locs cells slots Qw (F0 m pc lsC ((t).map (am_cv sa fm ad))) := by
  obtain ⟨⟨hx, hb, hml, hown, hts, hr, hlk, hin⟩, hS, hR, hW, hL, hT⟩ := id Z
  obtain ⟨-, -, -, -, -, h6, -, -, h9, h10, -⟩ := hS
  exact va_gets hx hb (h6 0 (by omega)) hW.2.2.1 hown (hts _ (am_gw_in hk rfl)) (fun _ h9 => h9) hd (am_k0 Z K (am_oc (show am_okr L (some (97, 0)) by simp [am_okr]) hT))
set_option maxRecDepth 100000 in
theorem sd_gets1 {D : va_G} {cs : Nat → ClassId} {sa : Nat → Nat → Nat} {fm : Option Nat} {b0 : Nat} {xs : Nat → Int32} {Ls : Nat} {p : Program} {l : Launch} {e : Env} {R : Room} {s : State} {m : MethodId} {args : Array Value} {below : List Frame} {meth : Method} {c : Code} {Qw : State → Prop} {H : Heap} {locs : List Loc} {lsC : Array Slot} {cells slots : Nat} {ad : Nat → Nat → Nat} {L : List (Nat × Nat)} {mid pc : Nat} {ls : List (Option am_V)} {t : List am_V} {M : am_M} {n w : Nat} (hd : decode (am_by mid) pc = .ok (.getstatic n, 3)) (hk : am_wd w (.fieldLink (am_own mid) n (am_sf 1).1 (am_sf 1).2.1 (am_sf 1).2.2) = true) (Z : am_Ho D cs sa fm b0 xs Ls p l e R s m args below meth c H locs lsC cells slots ad L mid ls (t) M) (K : am_KK D cs sa fm b0 xs Ls p l e R s m args below meth c Qw mid cells slots M ad L (pc + 3) (ls) (.inr (.inr (some (98, 0))) :: t) (M)) : W p l e R s m args below meth c H locs cells slots Qw (F0 m pc lsC ((t).map (am_cv sa fm ad))) := by
  obtain ⟨⟨hx, hb, hml, hown, hts, hr, hlk, hin⟩, hS, hR, hW, hL, hT⟩ := id Z
  obtain ⟨-, -, -, -, -, h6, -, -, h9, h10, -⟩ := hS
  exact va_gets hx hb (h6 1 (by omega)) hW.2.2.1 hown (hts _ (am_gw_in hk rfl)) (fun _ h9 => h9) hd (am_k0 Z K (am_oc (show am_okr L (some (98, 0)) by simp [am_okr]) hT))
set_option maxRecDepth 100000 in
theorem sd_gets2 {D : va_G} {cs : Nat → ClassId} {sa : Nat → Nat → Nat} {fm : Option Nat} {b0 : Nat} {xs : Nat → Int32} {Ls : Nat} {p : Program} {l : Launch} {e : Env} {R : Room} {s : State} {m : MethodId} {args : Array Value} {below : List Frame} {meth : Method} {c : Code} {Qw : State → Prop} {H : Heap} {locs : List Loc} {lsC : Array Slot} {cells slots : Nat} {ad : Nat → Nat → Nat} {L : List (Nat × Nat)} {mid pc : Nat} {ls : List (Option am_V)} {t : List am_V} {M : am_M} {n w : Nat} (hd : decode (am_by mid) pc = .ok (.getstatic n, 3)) (hk : am_wd w (.fieldLink (am_own mid) n (am_sf 2).1 (am_sf 2).2.1 (am_sf 2).2.2) = true) (Z : am_Ho D cs sa fm b0 xs Ls p l e R s m args below meth c H locs lsC cells slots ad L mid ls (t) M) (K : am_KK D cs sa fm b0 xs Ls p l e R s m args below meth c Qw mid cells slots M ad L (pc + 3) (ls) (.inl 1 :: t) (M)) : W p l e R s m args below meth c H locs cells slots Qw (F0 m pc lsC ((t).map (am_cv sa fm ad))) := by
  obtain ⟨⟨hx, hb, hml, hown, hts, hr, hlk, hin⟩, hS, hR, hW, hL, hT⟩ := id Z
  obtain ⟨-, -, -, -, -, h6, -, -, h9, h10, -⟩ := hS
  exact va_gets hx hb (h9) hW.2.2.1 hown (hts _ (am_gw_in hk rfl)) (fun _ h9 => h9) hd (am_k0 Z K (am_oc trivial hT))
set_option maxRecDepth 100000 in
theorem sd_gets3 {D : va_G} {cs : Nat → ClassId} {sa : Nat → Nat → Nat} {fm : Option Nat} {b0 : Nat} {xs : Nat → Int32} {Ls : Nat} {p : Program} {l : Launch} {e : Env} {R : Room} {s : State} {m : MethodId} {args : Array Value} {below : List Frame} {meth : Method} {c : Code} {Qw : State → Prop} {H : Heap} {locs : List Loc} {lsC : Array Slot} {cells slots : Nat} {ad : Nat → Nat → Nat} {L : List (Nat × Nat)} {mid pc : Nat} {ls : List (Option am_V)} {t : List am_V} {M : am_M} {n w : Nat} (hd : decode (am_by mid) pc = .ok (.getstatic n, 3)) (hk : am_wd w (.fieldLink (am_own mid) n (am_sf 3).1 (am_sf 3).2.1 (am_sf 3).2.2) = true) (Z : am_Ho D cs sa fm b0 xs Ls p l e R s m args below meth c H locs lsC cells slots ad L mid ls (t) M) (K : am_KK D cs sa fm b0 xs Ls p l e R s m args below meth c Qw mid cells slots M ad L (pc + 3) (ls) (.inr (.inr (some (101, 0))) :: t) (M)) : W p l e R s m args below meth c H locs cells slots Qw (F0 m pc lsC ((t).map (am_cv sa fm ad))) := by
  obtain ⟨⟨hx, hb, hml, hown, hts, hr, hlk, hin⟩, hS, hR, hW, hL, hT⟩ := id Z
  obtain ⟨-, -, -, -, -, h6, -, -, h9, h10, -⟩ := hS
  exact va_gets hx hb (h10) hW.2.2.1 hown (hts _ (am_gw_in hk rfl)) (fun _ h9 => h9) hd (am_k0 Z K (am_oc (show am_okr L (some (101, 0)) by simp [am_okr]) hT))
theorem am_swT_ok {pc : Nat} {x : Int32} : ∀ {lo : Int} {os : List Int} {sw : List (Int32 × Nat)} {d : Nat} {α : Type} {k : Nat → Option α} {z : α}, am_swT pc lo os sw = true → am_sw x d k sw = some z → ((x.toInt < lo ∨ lo + os.length ≤ x.toInt) ∧ k d = some z) ∨ ∃ (o : Int) (tg : Nat), ¬ x.toInt < lo ∧ os[(x.toInt - lo).toNat]? = some o ∧ (pc : Int) + o = (tg : Int) ∧ k tg = some z ∧ x.toInt < lo + os.length
  | lo, [], [], d, α, k, z, _, h2 => Or.inl ⟨by simp only [List.length_nil]; omega, h2⟩
  | lo, [], _ :: _, _, _, _, _, h1, _ => by cases h1
  | lo, _ :: _, [], _, _, _, _, h1, _ => by cases h1
  | lo, o :: os, (v, tg) :: r, d, α, k, z, h1, h2 => by
    simp only [am_swT, Bool.and_eq_true, decide_eq_true_eq] at h1
    obtain ⟨⟨h3, h4⟩, h5⟩ := h1
    unfold am_sw at h2
    by_cases hx : x = v
    · rw [if_pos hx] at h2
      subst hx
      exact Or.inr ⟨o, tg, by omega, by rw [h3]; simp, h4, h2, by simp only [List.length_cons]; omega⟩
    · rw [if_neg hx] at h2
      have hne : ¬ x.toInt = lo := fun q => hx (Int32.toInt_inj.mp (by rw [h3]; exact q))
      rcases am_swT_ok h5 h2 with ⟨h6, h7⟩ | ⟨o2, tg2, h6, h7, h8, h9, h10⟩
      · exact Or.inl ⟨by simp only [List.length_cons]; omega, h7⟩
      · refine Or.inr ⟨o2, tg2, by omega, ?_, h8, h9, by simp only [List.length_cons]; omega⟩
        rw [show (x.toInt - lo).toNat = (x.toInt - (lo + 1)).toNat + 1 by omega, List.getElem?_cons_succ]
        exact h7
theorem am_swL_ok {pc : Nat} {x : Int32} {dd : Int} : ∀ {os : List (Int × Int)} {sw : List (Int32 × Nat)} {d : Nat} {α : Type} {k : Nat → Option α} {z : α}, am_swL pc os sw = true → (pc : Int) + dd = (d : Int) → am_sw x d k sw = some z → ∃ tg : Nat, (pc : Int) + Op.lookupswitch.offset os dd x.toInt = (tg : Int) ∧ k tg = some z
  | [], [], d, α, k, z, _, hd, h2 => ⟨d, hd, h2⟩
  | [], _ :: _, _, _, _, _, h1, _, _ => by cases h1
  | _ :: _, [], _, _, _, _, h1, _, _ => by cases h1
  | (a, o) :: os, (v, tg) :: r, d, α, k, z, h1, hd, h2 => by
    simp only [am_swL, Bool.and_eq_true, decide_eq_true_eq] at h1
    obtain ⟨⟨h3, h4⟩, h5⟩ := h1
    unfold am_sw at h2
    by_cases hx : x = v
    · rw [if_pos hx] at h2
      subst hx
      refine ⟨tg, ?_, h2⟩
      rw [show Op.lookupswitch.offset ((a, o) :: os) dd x.toInt = o by simp [Op.lookupswitch.offset, h3]]
      exact h4
    · rw [if_neg hx] at h2
      rw [lv_osw hx h3]
      exact am_swL_ok h5 hd h2
