theorem am_ce_xt {cs : Nat → ClassId} {ad ad1 : Nat → Nat → Nat} {M M' : am_M} {q : Nat × Nat} (h1 : M'.1 q.1 q.2 = M.1 q.1 q.2) (h2 : M'.2.1 q.1 q.2 = M.2.1 q.1 q.2) (h3 : M'.2.2.2.1 q.1 q.2 = M.2.2.2.1 q.1 q.2) (h4 : ∀ j r, M.2.1 q.1 q.2 j = some r → ad1 r.1 r.2 = ad r.1 r.2) : am_ce cs ad1 M' q = am_ce cs ad M q := by
  have h5 : ∀ j, (M'.2.1 q.1 q.2 j).map (fun r => ad1 r.1 r.2) = (M.2.1 q.1 q.2 j).map (fun r => ad r.1 r.2) := by
    intro j
    rw [h2]
    cases hr : M.2.1 q.1 q.2 j with
    | none => rfl
    | some r => simp only [Option.map_some, h4 j r hr]
  unfold am_ce
  split
  · congr 2
    apply List.map_congr_left
    intro j _
    unfold am_fv
    rw [h5, h1]
  · split
    · rw [h1, h3]
    · rw [h3, funext h5]
theorem am_sI_at {M : am_M} {g k j : Nat} {v : Int32} : (am_sI M g k j v).1 g k = fun j' => if j' = j then v else M.1 g k j' := by
  funext j'
  show cond (Nat.beq g g) (if k = k ∧ j' = j then v else M.1 g k j') (M.1 g k j') = _
  rw [show Nat.beq g g = true from Nat.beq_refl g]
  simp
theorem am_sI_ne {M : am_M} {g k j : Nat} {v : Int32} {q : Nat × Nat} (h : q ≠ (g, k)) : (am_sI M g k j v).1 q.1 q.2 = M.1 q.1 q.2 := by
  funext j'
  show cond (Nat.beq q.1 g) (if q.2 = k ∧ j' = j then v else M.1 q.1 q.2 j') (M.1 q.1 q.2 j') = _
  cases hb : Nat.beq q.1 g with
  | false => rfl
  | true =>
    have h1 : q.1 = g := Nat.eq_of_beq_eq_true hb
    have h2 : ¬ q.2 = k := fun z => h (Prod.ext h1 z)
    simp [h2]
theorem am_sA_at {M : am_M} {g k : Nat} {f : Nat → Int32} : (am_sA M g k f).1 g k = f := by
  funext j'
  show cond (Nat.beq g g) (if k = k then f j' else M.1 g k j') (M.1 g k j') = _
  rw [show Nat.beq g g = true from Nat.beq_refl g]
  simp
theorem am_sA_ne {M : am_M} {g k : Nat} {f : Nat → Int32} {q : Nat × Nat} (h : q ≠ (g, k)) : (am_sA M g k f).1 q.1 q.2 = M.1 q.1 q.2 := by
  funext j'
  show cond (Nat.beq q.1 g) (if q.2 = k then f j' else M.1 q.1 q.2 j') (M.1 q.1 q.2 j') = _
  cases hb : Nat.beq q.1 g with
  | false => rfl
  | true =>
    have h1 : q.1 = g := Nat.eq_of_beq_eq_true hb
    have h2 : ¬ q.2 = k := fun z => h (Prod.ext h1 z)
    simp [h2]
theorem am_sR_at {M : am_M} {g k j : Nat} {v : Option (Nat × Nat)} : (am_sR M g k j v).2.1 g k = fun j' => if j' = j then v else M.2.1 g k j' := by
  funext j'
  show cond (Nat.beq g g) (if k = k ∧ j' = j then v else M.2.1 g k j') (M.2.1 g k j') = _
  rw [show Nat.beq g g = true from Nat.beq_refl g]
  simp
theorem am_sR_ne {M : am_M} {g k j : Nat} {v : Option (Nat × Nat)} {q : Nat × Nat} (h : q ≠ (g, k)) : (am_sR M g k j v).2.1 q.1 q.2 = M.2.1 q.1 q.2 := by
  funext j'
  show cond (Nat.beq q.1 g) (if q.2 = k ∧ j' = j then v else M.2.1 q.1 q.2 j') (M.2.1 q.1 q.2 j') = _
  cases hb : Nat.beq q.1 g with
  | false => rfl
  | true =>
    have h1 : q.1 = g := Nat.eq_of_beq_eq_true hb
    have h2 : ¬ q.2 = k := fun z => h (Prod.ext h1 z)
    simp [h2]
theorem am_set_map {f f' : Nat → Value} {N a : Nat} {v : Value} (ha : f' a = v) (hn : ∀ j, j ≠ a → f' j = f j) : (List.range N).map f' = ((List.range N).map f).set a v := by
  apply List.ext_getElem?
  intro i
  rw [List.getElem?_set, List.getElem?_map, List.getElem?_map]
  by_cases hi : a = i
  · subst hi
    rw [if_pos rfl, List.length_map, List.length_range]
    by_cases hl : a < N
    · rw [if_pos hl, List.getElem?_range hl]
      simp [ha]
    · rw [if_neg hl, List.getElem?_eq_none (by simp; omega)]
      rfl
  · rw [if_neg hi]
    by_cases hl : i < N
    · rw [List.getElem?_range hl]
      simp [hn i (fun z => hi z.symm)]
    · rw [List.getElem?_eq_none (by simp; omega)]
      rfl
theorem am_wf_sI {xs : Nat → Int32} {Ls : Nat} {L : List (Nat × Nat)} {M : am_M} {g k j : Nat} {v : Int32} (h : am_wf xs Ls L M) (hg : g ≤ 95) : am_wf xs Ls L (am_sI M g k j v) :=
  ⟨h.1, h.2.1, h.2.2.1, (am_sI_ne (q := (96, 0)) (fun z => by have := congrArg Prod.fst z; simp only at this; omega)).trans h.2.2.2.1, h.2.2.2.2⟩
theorem am_wf_sA {xs : Nat → Int32} {Ls : Nat} {L : List (Nat × Nat)} {M : am_M} {g k : Nat} {f : Nat → Int32} (h : am_wf xs Ls L M) (hg : g ≤ 95) : am_wf xs Ls L (am_sA M g k f) :=
  ⟨h.1, h.2.1, h.2.2.1, (am_sA_ne (q := (96, 0)) (fun z => by have := congrArg Prod.fst z; simp only at this; omega)).trans h.2.2.2.1, h.2.2.2.2⟩
theorem am_wf_sR {xs : Nat → Int32} {Ls : Nat} {L : List (Nat × Nat)} {M : am_M} {g k j : Nat} {v : Option (Nat × Nat)} (h : am_wf xs Ls L M) (hv : ∀ r, v = some r → r ∈ L) : am_wf xs Ls L (am_sR M g k j v) := by
  refine ⟨h.1, h.2.1, fun g' k' j' r h1 h2 => ?_, h.2.2.2.1, h.2.2.2.2⟩
  by_cases e : (g', k') = (g, k)
  · cases e
    rw [am_sR_at] at h2
    by_cases hj : j' = j
    · simp only [hj, if_true] at h2
      exact hv r h2
    · simp only [hj, if_false] at h2
      exact h.2.2.1 _ _ _ r h1 h2
  · rw [am_sR_ne (q := (g', k')) e] at h2
    exact h.2.2.1 _ _ _ r h1 h2
theorem am_ce_o {cs : Nat → ClassId} {ad : Nat → Nat → Nat} {M : am_M} {g k : Nat} (h : g ≤ 8) : am_ce cs ad M (g, k) = .inr (g, (List.range (am_N g)).map (am_fv ad M g k)) := by simp [am_ce, h]
theorem am_ce_i {cs : Nat → ClassId} {ad : Nat → Nat → Nat} {M : am_M} {g k : Nat} (h : 16 ≤ g) (h2 : g ≤ 79) : am_ce cs ad M (g, k) = .inl (cs 0, M.2.2.2.1 g k, .inl (M.1 g k)) := by
  have h3 : ¬ g ≤ 8 := by omega
  simp [am_ce, h2, h3]
theorem am_ce_r {cs : Nat → ClassId} {ad : Nat → Nat → Nat} {M : am_M} {g k : Nat} (h : 80 ≤ g) : am_ce cs ad M (g, k) = .inl (cs (1 + am_ge g), M.2.2.2.1 g k, .inr (.inr (.inr (.inr (fun i => (M.2.1 g k i).map (fun r => ad r.1 r.2)))))) := by
  have h3 : ¬ g ≤ 8 := by omega
  have h4 : ¬ g ≤ 79 := by omega
  simp [am_ce, h3, h4]
theorem am_cv_r {sa : Nat → Nat → Nat} {fm : Option Nat} {ad : Nat → Nat → Nat} {g k : Nat} (h : g ≤ 95) : am_cv sa fm ad (.inr (.inr (some (g, k)))) = .ref (ad g k) := by simp [am_cv, am_rv, h]
theorem am_cv_x {sa : Nat → Nat → Nat} {fm : Option Nat} {ad : Nat → Nat → Nat} {g k : Nat} (h : 96 ≤ g) (h2 : g ≤ 100) : am_cv sa fm ad (.inr (.inr (some (g, k)))) = .ref (sa g k) := by
  have h3 : ¬ g ≤ 95 := by omega
  have h4 : ¬ g = 101 := by omega
  simp [am_cv, am_rv, h3, h4]
theorem sd_getfI {D : va_G} {cs : Nat → ClassId} {sa : Nat → Nat → Nat} {fm : Option Nat} {b0 : Nat} {xs : Nat → Int32} {Ls : Nat} {p : Program} {l : Launch} {e : Env} {R : Room} {s : State} {m : MethodId} {args : Array Value} {below : List Frame} {meth : Method} {c : Code} {Qw : State → Prop} {H : Heap} {locs : List Loc} {lsC : Array Slot} {cells slots : Nat} {ad : Nat → Nat → Nat} {L : List (Nat × Nat)} {mid pc : Nat} {ls : List (Option am_V)} {t : List am_V} {M : am_M} {n a ci q w : Nat} (hd : decode (am_by mid) pc = .ok (.getfield n, 3)) (hc : ci ≤ 8) (ha : a < am_N ci) (hk : am_wd w (.fieldLink (am_own mid) n (am_T ci a).1 (am_T ci a).2.1 (am_T ci a).2.2.1) = true) (hf : ¬ am_fk ci a = 1) (Z : am_Ho D cs sa fm b0 xs Ls p l e R s m args below meth c H locs lsC cells slots ad L mid ls (.inr (.inr (some (ci, q))) :: t) M) (K : am_KK D cs sa fm b0 xs Ls p l e R s m args below meth c Qw mid cells slots M ad L (pc + 3) (ls) (.inl (M.1 ci q a) :: t) (M)) : W p l e R s m args below meth c H locs cells slots Qw (F0 m pc lsC ((.inr (.inr (some (ci, q))) :: t).map (am_cv sa fm ad))) := by
  obtain ⟨⟨hx, hb, hml, hown, hts, hr, hlk, hin⟩, hS, hR, hW, hL, hT⟩ := id Z
  have hi : (ci, q) ∈ L := am_okr_in (am_oh hT) (by omega)
  obtain ⟨q0, hq0, hq1⟩ := am_ws_at (cs := cs) (ad := ad) (M := M) hi
  rw [am_ce_o hc] at hq1
  show W p l e R s m args below meth c H locs cells slots Qw (F0 m pc lsC (am_cv sa fm ad (.inr (.inr (some (ci, q)))) :: t.map (am_cv sa fm ad)))
  rw [am_cv_r (by omega)]
  refine va_get (D := D) (cl := am_cl) (ci := ci) (C := am_R ci) (T := am_T ci) (N := am_N ci) hx hb hts (am_uws hc) hown hS.1 hW.1 q0 hq1 (am_cl_at ci hc) a ha (hts _ (am_gw_in hk rfl)) (fun _ h9 => h9) (v := am_fv ad M ci q a) (by rw [List.getElem?_map, List.getElem?_range ha]; rfl) hd ?_
  rw [show am_fv ad M ci q a = .int (M.1 ci q a) by simp [am_fv, hf]]
  exact am_k0 Z K (am_oc trivial (am_ot hT))
theorem sd_getfR {D : va_G} {cs : Nat → ClassId} {sa : Nat → Nat → Nat} {fm : Option Nat} {b0 : Nat} {xs : Nat → Int32} {Ls : Nat} {p : Program} {l : Launch} {e : Env} {R : Room} {s : State} {m : MethodId} {args : Array Value} {below : List Frame} {meth : Method} {c : Code} {Qw : State → Prop} {H : Heap} {locs : List Loc} {lsC : Array Slot} {cells slots : Nat} {ad : Nat → Nat → Nat} {L : List (Nat × Nat)} {mid pc : Nat} {ls : List (Option am_V)} {t : List am_V} {M : am_M} {n a ci q w : Nat} (hd : decode (am_by mid) pc = .ok (.getfield n, 3)) (hc : ci ≤ 8) (ha : a < am_N ci) (hk : am_wd w (.fieldLink (am_own mid) n (am_T ci a).1 (am_T ci a).2.1 (am_T ci a).2.2.1) = true) (hf : am_fk ci a = 1) (Z : am_Ho D cs sa fm b0 xs Ls p l e R s m args below meth c H locs lsC cells slots ad L mid ls (.inr (.inr (some (ci, q))) :: t) M) (K : am_KK D cs sa fm b0 xs Ls p l e R s m args below meth c Qw mid cells slots M ad L (pc + 3) (ls) (.inr (.inr (M.2.1 ci q a)) :: t) (M)) : W p l e R s m args below meth c H locs cells slots Qw (F0 m pc lsC ((.inr (.inr (some (ci, q))) :: t).map (am_cv sa fm ad))) := by
  obtain ⟨⟨hx, hb, hml, hown, hts, hr, hlk, hin⟩, hS, hR, hW, hL, hT⟩ := id Z
  have hi : (ci, q) ∈ L := am_okr_in (am_oh hT) (by omega)
  obtain ⟨q0, hq0, hq1⟩ := am_ws_at (cs := cs) (ad := ad) (M := M) hi
  rw [am_ce_o hc] at hq1
  show W p l e R s m args below meth c H locs cells slots Qw (F0 m pc lsC (am_cv sa fm ad (.inr (.inr (some (ci, q)))) :: t.map (am_cv sa fm ad)))
  rw [am_cv_r (by omega)]
  refine va_get (D := D) (cl := am_cl) (ci := ci) (C := am_R ci) (T := am_T ci) (N := am_N ci) hx hb hts (am_uws hc) hown hS.1 hW.1 q0 hq1 (am_cl_at ci hc) a ha (hts _ (am_gw_in hk rfl)) (fun _ h9 => h9) (v := am_fv ad M ci q a) (by rw [List.getElem?_map, List.getElem?_range ha]; rfl) hd ?_
  have h1 : ∀ z, M.2.1 ci q a = some z → z ∈ L := fun z hz => hW.2.2.2.2.2.1 ci q a z hi hz
  rw [show am_fv ad M ci q a = am_rv sa fm ad (M.2.1 ci q a) by rw [am_rv_in hW.2.2.2 h1]; simp [am_fv, hf]]
  exact am_k0 Z K (am_oc (am_okr_mem hW.2.2.2 h1) (am_ot hT))
theorem sd_getfS {D : va_G} {cs : Nat → ClassId} {sa : Nat → Nat → Nat} {fm : Option Nat} {b0 : Nat} {xs : Nat → Int32} {Ls : Nat} {p : Program} {l : Launch} {e : Env} {R : Room} {s : State} {m : MethodId} {args : Array Value} {below : List Frame} {meth : Method} {c : Code} {Qw : State → Prop} {H : Heap} {locs : List Loc} {lsC : Array Slot} {cells slots : Nat} {ad : Nat → Nat → Nat} {L : List (Nat × Nat)} {mid pc : Nat} {ls : List (Option am_V)} {t : List am_V} {M : am_M} {n q w : Nat} (hd : decode (am_by mid) pc = .ok (.getfield n, 3)) (hk : am_wd w (.fieldLink (am_own mid) n (am_gf 0).1 (am_gf 0).2.1 (am_gf 0).2.2) = true) (Z : am_Ho D cs sa fm b0 xs Ls p l e R s m args below meth c H locs lsC cells slots ad L mid ls (.inr (.inr (some (100, q))) :: t) M) (K : am_KK D cs sa fm b0 xs Ls p l e R s m args below meth c Qw mid cells slots M ad L (pc + 3) (ls) (.inr (.inr (some (99, q))) :: t) (M)) : W p l e R s m args below meth c H locs cells slots Qw (F0 m pc lsC ((.inr (.inr (some (100, q))) :: t).map (am_cv sa fm ad))) := by
  obtain ⟨⟨hx, hb, hml, hown, hts, hr, hlk, hin⟩, hS, hR, hW, hL, hT⟩ := id Z
  have hq : q < 7 := by have := am_oh hT; simpa [am_okv, am_okr] using this
  show W p l e R s m args below meth c H locs cells slots Qw (F0 m pc lsC (am_cv sa fm ad (.inr (.inr (some (100, q)))) :: t.map (am_cv sa fm ad)))
  rw [am_cv_x (by omega) (by omega)]
  refine vk_getf hx hb ((hS.2.2.2.2.1.1 q hq).2.2.1) hW.2.2.1 hown (hts _ (am_gw_in hk rfl)) (fun _ h9 => h9) hd ?_
  have := am_k0 Z K (am_oc (show am_okr L (some (99, q)) by simp [am_okr, hq]) (am_ot hT))
  rw [List.map_cons, am_cv_x (by omega) (by omega)] at this
  exact this
theorem sd_getfC {D : va_G} {cs : Nat → ClassId} {sa : Nat → Nat → Nat} {fm : Option Nat} {b0 : Nat} {xs : Nat → Int32} {Ls : Nat} {p : Program} {l : Launch} {e : Env} {R : Room} {s : State} {m : MethodId} {args : Array Value} {below : List Frame} {meth : Method} {c : Code} {Qw : State → Prop} {H : Heap} {locs : List Loc} {lsC : Array Slot} {cells slots : Nat} {ad : Nat → Nat → Nat} {L : List (Nat × Nat)} {mid pc : Nat} {ls : List (Option am_V)} {t : List am_V} {M : am_M} {n q w : Nat} (hd : decode (am_by mid) pc = .ok (.getfield n, 3)) (hk : am_wd w (.fieldLink (am_own mid) n (am_gf 1).1 (am_gf 1).2.1 (am_gf 1).2.2) = true) (Z : am_Ho D cs sa fm b0 xs Ls p l e R s m args below meth c H locs lsC cells slots ad L mid ls (.inr (.inr (some (100, q))) :: t) M) (K : am_KK D cs sa fm b0 xs Ls p l e R s m args below meth c Qw mid cells slots M ad L (pc + 3) (ls) (.inl 0 :: t) (M)) : W p l e R s m args below meth c H locs cells slots Qw (F0 m pc lsC ((.inr (.inr (some (100, q))) :: t).map (am_cv sa fm ad))) := by
  obtain ⟨⟨hx, hb, hml, hown, hts, hr, hlk, hin⟩, hS, hR, hW, hL, hT⟩ := id Z
  have hq : q < 7 := by have := am_oh hT; simpa [am_okv, am_okr] using this
  show W p l e R s m args below meth c H locs cells slots Qw (F0 m pc lsC (am_cv sa fm ad (.inr (.inr (some (100, q)))) :: t.map (am_cv sa fm ad)))
  rw [am_cv_x (by omega) (by omega)]
  refine vk_getf hx hb ((hS.2.2.2.2.1.1 q hq).2.1) hW.2.2.1 hown (hts _ (am_gw_in hk rfl)) (fun _ h9 => h9) hd ?_
  exact am_k0 Z K (am_oc trivial (am_ot hT))
theorem sd_putI {D : va_G} {cs : Nat → ClassId} {sa : Nat → Nat → Nat} {fm : Option Nat} {b0 : Nat} {xs : Nat → Int32} {Ls : Nat} {p : Program} {l : Launch} {e : Env} {R : Room} {s : State} {m : MethodId} {args : Array Value} {below : List Frame} {meth : Method} {c : Code} {Qw : State → Prop} {H : Heap} {locs : List Loc} {lsC : Array Slot} {cells slots : Nat} {ad : Nat → Nat → Nat} {L : List (Nat × Nat)} {mid pc : Nat} {ls : List (Option am_V)} {t : List am_V} {M : am_M} {n a ci q w : Nat} (hd : decode (am_by mid) pc = .ok (.putfield n, 3)) (hc : ci ≤ 8) (ha : a < am_N ci) (hk : am_wd w (.fieldLink (am_own mid) n (am_T ci a).1 (am_T ci a).2.1 (am_T ci a).2.2.1) = true) (hfi : (am_T ci a).2.2.2 = false ∨ (am_in mid = true ∧ (am_T ci a).1 = am_own mid)) {x : Int32} (hf : am_fk ci a = 0) (Z : am_Ho D cs sa fm b0 xs Ls p l e R s m args below meth c H locs lsC cells slots ad L mid ls (.inl x :: .inr (.inr (some (ci, q))) :: t) M) (K : am_KK D cs sa fm b0 xs Ls p l e R s m args below meth c Qw mid cells slots M ad L (pc + 3) (ls) (t) (am_sI M ci q a x)) : W p l e R s m args below meth c H locs cells slots Qw (F0 m pc lsC ((.inl x :: .inr (.inr (some (ci, q))) :: t).map (am_cv sa fm ad))) := by
  obtain ⟨⟨hx, hb, hml, hown, hts, hr, hlk, hin⟩, hS, hR, hW, hL, hT⟩ := id Z
  have hi : (ci, q) ∈ L := am_okr_in (am_oh (am_ot hT)) (by omega)
  obtain ⟨q0, hq0, hq1⟩ := am_ws_at (cs := cs) (ad := ad) (M := M) hi
  rw [am_ce_o hc] at hq1
  have hft := am_ft_ok hc ha
  rw [hf] at hft
  have hty := am_ft0 hft
  have hn1 : narrow (am_ty ci a) (.int x) = .int x := by rw [hty]; rfl
  have hn2 : fits (am_ty ci a) (.int x) = true := by rw [hty]; rfl
  have hl : a < ((List.range (am_N ci)).map (am_fv ad M ci q)).length := by rw [List.length_map, List.length_range]; exact ha
  have hset : (am_ws cs ad M L).set q0 (ad ci q, .inr (ci, ((List.range (am_N ci)).map (am_fv ad M ci q)).set a (.int x))) = am_ws cs ad (am_sI M ci q a x) L := by
    refine am_ws_set (q := (ci, q)) hq0 hW.2.2.2.1 ?_ (fun q' hq' hne => ?_)
    · rw [am_ce_o hc]
      congr 2
      refine am_set_map ?_ (fun j hj => ?_)
      · unfold am_fv; rw [am_sI_at]; simp [hf]
      · unfold am_fv
        rw [am_sI_at]
        simp only [hj, if_false]
        rfl
    · exact am_ce_xt (am_sI_ne hne) rfl rfl (fun _ _ _ => rfl)
  have hcont : ∀ (H1 : Heap) (locs1 : List Loc), va_P D am_cl ((am_ws cs ad M L).set q0 (ad ci q, .inr (ci, ((List.range (am_N ci)).map (am_fv ad M ci q)).set a (.int x)))) H1 → va_D (fun q => b0 ≤ q) ((am_ws cs ad M L).set q0 (ad ci q, .inr (ci, ((List.range (am_N ci)).map (am_fv ad M ci q)).set a (.int x)))) → va_S (fun q => b0 ≤ q) s.heap H1 locs1 → W p l e R s m args below meth c H1 locs1 cells slots Qw (F0 m (pc + 3) lsC (t.map (am_cv sa fm ad))) := by
    intro H1 locs1 g1 g2 g3
    rw [hset] at g1 g2
    exact K H1 locs1 lsC ad L cells slots rfl rfl am_xt_rf ⟨g1, g2, g3, am_wf_sI hW.2.2.2 (by omega)⟩ hL (am_ot (am_ot hT))
  show W p l e R s m args below meth c H locs cells slots Qw (F0 m pc lsC (.int x :: am_cv sa fm ad (.inr (.inr (some (ci, q)))) :: t.map (am_cv sa fm ad)))
  rw [am_cv_r (by omega)]
  rcases hfi with hfi | ⟨hfi, hfo⟩
  · exact va_put (D := D) (cl := am_cl) (ci := ci) (C := am_R ci) (T := am_T ci) (N := am_N ci) hx hb hts (am_uws hc) (am_ty ci) (am_ty_ok hc) (am_nm_ok hc) hown hS.1 hW.1 hW.2.1 hW.2.2.1 q0 hq1 (am_cl_at ci hc) a ha (hts _ (am_gw_in hk rfl)) (fun _ h9 => h9) hfi (ty := am_ty ci a) (am_ty_ok hc a ha) hn1 hn2 hl hd hcont
  · by_cases hfin : (am_T ci a).2.2.2 = false
    · exact va_put (D := D) (cl := am_cl) (ci := ci) (C := am_R ci) (T := am_T ci) (N := am_N ci) hx hb hts (am_uws hc) (am_ty ci) (am_ty_ok hc) (am_nm_ok hc) hown hS.1 hW.1 hW.2.1 hW.2.2.1 q0 hq1 (am_cl_at ci hc) a ha (hts _ (am_gw_in hk rfl)) (fun _ h9 => h9) hfin (ty := am_ty ci a) (am_ty_ok hc a ha) hn1 hn2 hl hd hcont
    · exact va_putF (D := D) (cl := am_cl) (ci := ci) (C := am_R ci) (T := am_T ci) (N := am_N ci) hx hb hts (am_uws hc) (am_ty ci) (am_ty_ok hc) (am_nm_ok hc) hown hS.1 hW.1 hW.2.1 hW.2.2.1 q0 hq1 (am_cl_at ci hc) a ha (hts _ (am_gw_in hk rfl)) (fun _ h9 => h9) (by simpa using hfin) (hin hfi) hfo (ty := am_ty ci a) (am_ty_ok hc a ha) hn1 hn2 hl hd hcont
theorem sd_putZ {D : va_G} {cs : Nat → ClassId} {sa : Nat → Nat → Nat} {fm : Option Nat} {b0 : Nat} {xs : Nat → Int32} {Ls : Nat} {p : Program} {l : Launch} {e : Env} {R : Room} {s : State} {m : MethodId} {args : Array Value} {below : List Frame} {meth : Method} {c : Code} {Qw : State → Prop} {H : Heap} {locs : List Loc} {lsC : Array Slot} {cells slots : Nat} {ad : Nat → Nat → Nat} {L : List (Nat × Nat)} {mid pc : Nat} {ls : List (Option am_V)} {t : List am_V} {M : am_M} {n a ci q w : Nat} (hd : decode (am_by mid) pc = .ok (.putfield n, 3)) (hc : ci ≤ 8) (ha : a < am_N ci) (hk : am_wd w (.fieldLink (am_own mid) n (am_T ci a).1 (am_T ci a).2.1 (am_T ci a).2.2.1) = true) (hfi : (am_T ci a).2.2.2 = false ∨ (am_in mid = true ∧ (am_T ci a).1 = am_own mid)) {x : Int32} (hf : am_fk ci a = 2) (hz : x = 0 ∨ x = 1) (Z : am_Ho D cs sa fm b0 xs Ls p l e R s m args below meth c H locs lsC cells slots ad L mid ls (.inl x :: .inr (.inr (some (ci, q))) :: t) M) (K : am_KK D cs sa fm b0 xs Ls p l e R s m args below meth c Qw mid cells slots M ad L (pc + 3) (ls) (t) (am_sI M ci q a x)) : W p l e R s m args below meth c H locs cells slots Qw (F0 m pc lsC ((.inl x :: .inr (.inr (some (ci, q))) :: t).map (am_cv sa fm ad))) := by
  obtain ⟨⟨hx, hb, hml, hown, hts, hr, hlk, hin⟩, hS, hR, hW, hL, hT⟩ := id Z
  have hi : (ci, q) ∈ L := am_okr_in (am_oh (am_ot hT)) (by omega)
  obtain ⟨q0, hq0, hq1⟩ := am_ws_at (cs := cs) (ad := ad) (M := M) hi
  rw [am_ce_o hc] at hq1
  have hft := am_ft_ok hc ha
  rw [hf] at hft
  have hty := am_ft2 hft
  have hn1 : narrow (am_ty ci a) (.int x) = .int x := by rw [hty]; rcases hz with rfl | rfl <;> rfl
  have hn2 : fits (am_ty ci a) (.int x) = true := by rw [hty]; rcases hz with rfl | rfl <;> rfl
  have hl : a < ((List.range (am_N ci)).map (am_fv ad M ci q)).length := by rw [List.length_map, List.length_range]; exact ha
  have hset : (am_ws cs ad M L).set q0 (ad ci q, .inr (ci, ((List.range (am_N ci)).map (am_fv ad M ci q)).set a (.int x))) = am_ws cs ad (am_sI M ci q a x) L := by
    refine am_ws_set (q := (ci, q)) hq0 hW.2.2.2.1 ?_ (fun q' hq' hne => ?_)
    · rw [am_ce_o hc]
      congr 2
      refine am_set_map ?_ (fun j hj => ?_)
      · unfold am_fv; rw [am_sI_at]; simp [hf]
      · unfold am_fv
        rw [am_sI_at]
        simp only [hj, if_false]
        rfl
    · exact am_ce_xt (am_sI_ne hne) rfl rfl (fun _ _ _ => rfl)
  have hcont : ∀ (H1 : Heap) (locs1 : List Loc), va_P D am_cl ((am_ws cs ad M L).set q0 (ad ci q, .inr (ci, ((List.range (am_N ci)).map (am_fv ad M ci q)).set a (.int x)))) H1 → va_D (fun q => b0 ≤ q) ((am_ws cs ad M L).set q0 (ad ci q, .inr (ci, ((List.range (am_N ci)).map (am_fv ad M ci q)).set a (.int x)))) → va_S (fun q => b0 ≤ q) s.heap H1 locs1 → W p l e R s m args below meth c H1 locs1 cells slots Qw (F0 m (pc + 3) lsC (t.map (am_cv sa fm ad))) := by
    intro H1 locs1 g1 g2 g3
    rw [hset] at g1 g2
    exact K H1 locs1 lsC ad L cells slots rfl rfl am_xt_rf ⟨g1, g2, g3, am_wf_sI hW.2.2.2 (by omega)⟩ hL (am_ot (am_ot hT))
  show W p l e R s m args below meth c H locs cells slots Qw (F0 m pc lsC (.int x :: am_cv sa fm ad (.inr (.inr (some (ci, q)))) :: t.map (am_cv sa fm ad)))
  rw [am_cv_r (by omega)]
  rcases hfi with hfi | ⟨hfi, hfo⟩
  · exact va_put (D := D) (cl := am_cl) (ci := ci) (C := am_R ci) (T := am_T ci) (N := am_N ci) hx hb hts (am_uws hc) (am_ty ci) (am_ty_ok hc) (am_nm_ok hc) hown hS.1 hW.1 hW.2.1 hW.2.2.1 q0 hq1 (am_cl_at ci hc) a ha (hts _ (am_gw_in hk rfl)) (fun _ h9 => h9) hfi (ty := am_ty ci a) (am_ty_ok hc a ha) hn1 hn2 hl hd hcont
  · by_cases hfin : (am_T ci a).2.2.2 = false
    · exact va_put (D := D) (cl := am_cl) (ci := ci) (C := am_R ci) (T := am_T ci) (N := am_N ci) hx hb hts (am_uws hc) (am_ty ci) (am_ty_ok hc) (am_nm_ok hc) hown hS.1 hW.1 hW.2.1 hW.2.2.1 q0 hq1 (am_cl_at ci hc) a ha (hts _ (am_gw_in hk rfl)) (fun _ h9 => h9) hfin (ty := am_ty ci a) (am_ty_ok hc a ha) hn1 hn2 hl hd hcont
    · exact va_putF (D := D) (cl := am_cl) (ci := ci) (C := am_R ci) (T := am_T ci) (N := am_N ci) hx hb hts (am_uws hc) (am_ty ci) (am_ty_ok hc) (am_nm_ok hc) hown hS.1 hW.1 hW.2.1 hW.2.2.1 q0 hq1 (am_cl_at ci hc) a ha (hts _ (am_gw_in hk rfl)) (fun _ h9 => h9) (by simpa using hfin) (hin hfi) hfo (ty := am_ty ci a) (am_ty_ok hc a ha) hn1 hn2 hl hd hcont
theorem sd_putR {D : va_G} {cs : Nat → ClassId} {sa : Nat → Nat → Nat} {fm : Option Nat} {b0 : Nat} {xs : Nat → Int32} {Ls : Nat} {p : Program} {l : Launch} {e : Env} {R : Room} {s : State} {m : MethodId} {args : Array Value} {below : List Frame} {meth : Method} {c : Code} {Qw : State → Prop} {H : Heap} {locs : List Loc} {lsC : Array Slot} {cells slots : Nat} {ad : Nat → Nat → Nat} {L : List (Nat × Nat)} {mid pc : Nat} {ls : List (Option am_V)} {t : List am_V} {M : am_M} {n a ci q w : Nat} (hd : decode (am_by mid) pc = .ok (.putfield n, 3)) (hc : ci ≤ 8) (ha : a < am_N ci) (hk : am_wd w (.fieldLink (am_own mid) n (am_T ci a).1 (am_T ci a).2.1 (am_T ci a).2.2.1) = true) (hfi : (am_T ci a).2.2.2 = false ∨ (am_in mid = true ∧ (am_T ci a).1 = am_own mid)) {r : Option (Nat × Nat)} (hf : am_fk ci a = 1) (hz : ∀ z, r = some z → z.1 ≤ 95) (Z : am_Ho D cs sa fm b0 xs Ls p l e R s m args below meth c H locs lsC cells slots ad L mid ls (.inr (.inr r) :: .inr (.inr (some (ci, q))) :: t) M) (K : am_KK D cs sa fm b0 xs Ls p l e R s m args below meth c Qw mid cells slots M ad L (pc + 3) (ls) (t) (am_sR M ci q a r)) : W p l e R s m args below meth c H locs cells slots Qw (F0 m pc lsC ((.inr (.inr r) :: .inr (.inr (some (ci, q))) :: t).map (am_cv sa fm ad))) := by
  obtain ⟨⟨hx, hb, hml, hown, hts, hr, hlk, hin⟩, hS, hR, hW, hL, hT⟩ := id Z
  have hi : (ci, q) ∈ L := am_okr_in (am_oh (am_ot hT)) (by omega)
  obtain ⟨q0, hq0, hq1⟩ := am_ws_at (cs := cs) (ad := ad) (M := M) hi
  rw [am_ce_o hc] at hq1
  have hft := am_ft_ok hc ha
  rw [hf] at hft
  have hrL : ∀ z, r = some z → z ∈ L := fun z h => by
    subst h
    exact am_okr_in (g := z.1) (k := z.2) (am_oh hT) (hz z rfl)
  have hn1 : narrow (am_ty ci a) (am_rv sa fm ad r) = am_rv sa fm ad r := by
    rcases am_ft1 hft with ⟨nn, hty⟩ | ⟨nn, hty⟩ <;> rw [hty] <;> rcases am_rv_c sa fm ad r with h3 | ⟨z, h3⟩ <;> rw [h3] <;> rfl
  have hn2 : fits (am_ty ci a) (am_rv sa fm ad r) = true := by
    rcases am_ft1 hft with ⟨nn, hty⟩ | ⟨nn, hty⟩ <;> rw [hty] <;> rcases am_rv_c sa fm ad r with h3 | ⟨z, h3⟩ <;> rw [h3] <;> rfl
  have hl : a < ((List.range (am_N ci)).map (am_fv ad M ci q)).length := by rw [List.length_map, List.length_range]; exact ha
  have hset : (am_ws cs ad M L).set q0 (ad ci q, .inr (ci, ((List.range (am_N ci)).map (am_fv ad M ci q)).set a (am_rv sa fm ad r))) = am_ws cs ad (am_sR M ci q a r) L := by
    refine am_ws_set (q := (ci, q)) hq0 hW.2.2.2.1 ?_ (fun q' hq' hne => ?_)
    · rw [am_ce_o hc]
      congr 2
      refine am_set_map ?_ (fun j hj => ?_)
      · unfold am_fv; rw [am_sR_at]; simp only [hf, if_true]; exact (am_rv_in hW.2.2.2 hrL).symm
      · unfold am_fv
        rw [am_sR_at]
        simp only [hj, if_false]
        rfl
    · exact am_ce_xt rfl (am_sR_ne hne) rfl (fun _ _ _ => rfl)
  have hcont : ∀ (H1 : Heap) (locs1 : List Loc), va_P D am_cl ((am_ws cs ad M L).set q0 (ad ci q, .inr (ci, ((List.range (am_N ci)).map (am_fv ad M ci q)).set a (am_rv sa fm ad r)))) H1 → va_D (fun q => b0 ≤ q) ((am_ws cs ad M L).set q0 (ad ci q, .inr (ci, ((List.range (am_N ci)).map (am_fv ad M ci q)).set a (am_rv sa fm ad r)))) → va_S (fun q => b0 ≤ q) s.heap H1 locs1 → W p l e R s m args below meth c H1 locs1 cells slots Qw (F0 m (pc + 3) lsC (t.map (am_cv sa fm ad))) := by
    intro H1 locs1 g1 g2 g3
    rw [hset] at g1 g2
    exact K H1 locs1 lsC ad L cells slots rfl rfl am_xt_rf ⟨g1, g2, g3, am_wf_sR hW.2.2.2 hrL⟩ hL (am_ot (am_ot hT))
  show W p l e R s m args below meth c H locs cells slots Qw (F0 m pc lsC (am_rv sa fm ad r :: am_cv sa fm ad (.inr (.inr (some (ci, q)))) :: t.map (am_cv sa fm ad)))
  rw [am_cv_r (by omega)]
  rcases hfi with hfi | ⟨hfi, hfo⟩
  · exact va_put (D := D) (cl := am_cl) (ci := ci) (C := am_R ci) (T := am_T ci) (N := am_N ci) hx hb hts (am_uws hc) (am_ty ci) (am_ty_ok hc) (am_nm_ok hc) hown hS.1 hW.1 hW.2.1 hW.2.2.1 q0 hq1 (am_cl_at ci hc) a ha (hts _ (am_gw_in hk rfl)) (fun _ h9 => h9) hfi (ty := am_ty ci a) (am_ty_ok hc a ha) hn1 hn2 hl hd hcont
  · by_cases hfin : (am_T ci a).2.2.2 = false
    · exact va_put (D := D) (cl := am_cl) (ci := ci) (C := am_R ci) (T := am_T ci) (N := am_N ci) hx hb hts (am_uws hc) (am_ty ci) (am_ty_ok hc) (am_nm_ok hc) hown hS.1 hW.1 hW.2.1 hW.2.2.1 q0 hq1 (am_cl_at ci hc) a ha (hts _ (am_gw_in hk rfl)) (fun _ h9 => h9) hfin (ty := am_ty ci a) (am_ty_ok hc a ha) hn1 hn2 hl hd hcont
    · exact va_putF (D := D) (cl := am_cl) (ci := ci) (C := am_R ci) (T := am_T ci) (N := am_N ci) hx hb hts (am_uws hc) (am_ty ci) (am_ty_ok hc) (am_nm_ok hc) hown hS.1 hW.1 hW.2.1 hW.2.2.1 q0 hq1 (am_cl_at ci hc) a ha (hts _ (am_gw_in hk rfl)) (fun _ h9 => h9) (by simpa using hfin) (hin hfi) hfo (ty := am_ty ci a) (am_ty_ok hc a ha) hn1 hn2 hl hd hcont
