/-- what a call of method a with as comes to, by any contract of it -/
def am_RunOf (p : Program) (l : Launch) (e : Env) (R : Room) (s : State) (m : MethodId) (args : Array Value) (below : List Frame) (meth : Method) (c : Code) (H : Heap) (locs : List Loc) (cells slots : Nat) (g : JFrame) (rest : List Value) (a : Nat) (av : List Value) : Prop :=
  ∀ (rm : Room) (Pc : Array Value → State → Prop) (Qc : Array Value → State → Outcome → State → Prop) (free : Addr → Prop), rm.frames + 1 ≤ R.frames → 8 + (am_mx a + 11) + rm.locals ≤ R.locals → Met l (am_y a) (am_wsd a) rm Pc Qc rm.cells rm.slots free → FrameBlind Pc → (∀ U : State, U.heap = H → s.WarmedH U.vm → Pc av.toArray U) → cells + rm.cells ≤ R.cells → slots + rm.slots ≤ R.slots →
    va_Run p l e R s m args below meth c H locs cells slots rm.cells rm.slots g rest (Qc av.toArray) free
theorem ca_S {D : va_G} {cs : Nat → ClassId} {sa : Nat → Nat → Nat} {fm : Option Nat} {b0 : Nat} {xs : Nat → Int32} {Ls : Nat} {p : Program} {l : Launch} {e : Env} {R : Room} {s : State} {m : MethodId} {args : Array Value} {below : List Frame} {meth : Method} {c : Code} {H : Heap} {locs : List Loc} {lsC : Array Slot} {cells slots : Nat} {ad : Nat → Nat → Nat} {L : List (Nat × Nat)} {mid pc : Nat} {ls : List (Option am_V)} {M : am_M} {st t as : List am_V} {n a w : Nat} (hd : decode (am_by mid) pc = .ok (.invokestatic n, 3)) (hk : am_wd w (.methodLink (am_own mid) n (am_y a)) = true) (hss : am_ss a = true) (h0 : 0 < a) (ha : a < am_nm) (hp : am_pop (am_na a) st [] = some (as, t)) (hdp : am_dep t ≤ 8) (Z : am_Ho D cs sa fm b0 xs Ls p l e R s m args below meth c H locs lsC cells slots ad L mid ls (st) M) : am_RunOf p l e R s m args below meth c H locs cells slots (F0 m pc lsC (st.map (am_cv sa fm ad))) (t.map (am_cv sa fm ad)) a (as.map (am_cv sa fm ad)) := by
  obtain ⟨⟨hx, hb, hml, hown, hts, hr, hlk, hin⟩, hS, hR, hW, hL, hT⟩ := id Z
  obtain ⟨ys, y1, y2, y3⟩ := am_pop_s hp
  rw [List.append_nil] at y3
  subst y2; subst y3
  obtain ⟨k1, k2, k3, k4, k5, k6, k7, k8, k9, k10⟩ := am_mk_s h0 ha
  intro rm Pc Qc free hfr hlo hM hbl hpre hc1 hs1
  have hwk : 2 * (F0 m pc lsC ((ys ++ t).map (am_cv sa fm ad))).monitorRoom + ((t.map (am_cv sa fm ad)).map fun v => v.category).sum ≤ 8 := by rw [am_dep_c]; show 2 * 0 + am_dep t ≤ 8; omega
  have hlen : ((ys.reverse).map (am_cv sa fm ad)).length = am_np a := by rw [List.length_map, List.length_reverse, y1, k5, hss]; rfl
  exact va_runS (As := (ys.reverse).map (am_cv sa fm ad)) (rest := t.map (am_cv sa fm ad)) ⟨hx, hb, hml, hown, hts⟩ hM ⟨callB_of (am_np a) hts (am_wsd_good h0 ha) (show am_wsd a = _ :: am_gw from rfl) rfl rfl (hts _ k1) (hts _ (am_gw_in hk rfl)) k3 ⟨hfr, hlo⟩, hts _ (k7 hss)⟩ ⟨hbl, hpre⟩ rfl hlen hL.1.1 (by show (ys ++ t).map _ = _; rw [List.map_append, List.map_reverse, List.reverse_reverse]) hwk hd ⟨hc1, hs1⟩
theorem ca_SN {D : va_G} {cs : Nat → ClassId} {sa : Nat → Nat → Nat} {fm : Option Nat} {b0 : Nat} {xs : Nat → Int32} {Ls : Nat} {p : Program} {l : Launch} {e : Env} {R : Room} {s : State} {m : MethodId} {args : Array Value} {below : List Frame} {meth : Method} {c : Code} {H : Heap} {locs : List Loc} {lsC : Array Slot} {cells slots : Nat} {ad : Nat → Nat → Nat} {L : List (Nat × Nat)} {mid pc : Nat} {ls : List (Option am_V)} {M : am_M} {st t as : List am_V} {n a w : Nat} (hd : decode (am_by mid) pc = .ok (.invokestatic n, 3)) {i : Nat} (hns : am_ns i = (am_own mid, n, a)) (hi : i ≤ 2) (hss : am_ss a = true) (h0 : 0 < a) (ha : a < am_nm) (hp : am_pop (am_na a) st [] = some (as, t)) (hdp : am_dep t ≤ 8) (Z : am_Ho D cs sa fm b0 xs Ls p l e R s m args below meth c H locs lsC cells slots ad L mid ls (st) M) : am_RunOf p l e R s m args below meth c H locs cells slots (F0 m pc lsC (st.map (am_cv sa fm ad))) (t.map (am_cv sa fm ad)) a (as.map (am_cv sa fm ad)) := by
  obtain ⟨⟨hx, hb, hml, hown, hts, hr, hlk, hin⟩, hS, hR, hW, hL, hT⟩ := id Z
  obtain ⟨ys, y1, y2, y3⟩ := am_pop_s hp
  rw [List.append_nil] at y3
  subst y2; subst y3
  obtain ⟨k1, k2, k3, k4, k5, k6, k7, k8, k9, k10⟩ := am_mk_s h0 ha
  intro rm Pc Qc free hfr hlo hM hbl hpre hc1 hs1
  have hwk : 2 * (F0 m pc lsC ((ys ++ t).map (am_cv sa fm ad))).monitorRoom + ((t.map (am_cv sa fm ad)).map fun v => v.category).sum ≤ 8 := by rw [am_dep_c]; show 2 * 0 + am_dep t ≤ 8; omega
  have hlen : ((ys.reverse).map (am_cv sa fm ad)).length = am_np a := by rw [List.length_map, List.length_reverse, y1, k5, hss]; rfl
  have hnw := hS.2.2.1 i hi
  rw [hns] at hnw
  exact va_runSN (As := (ys.reverse).map (am_cv sa fm ad)) (rest := t.map (am_cv sa fm ad)) (host := "CorkBreaks") ⟨hx, hb, hml, hown, hts⟩ hM ⟨va_cnB (am_np a) hts (am_wsd_good h0 ha) (show am_wsd a = _ :: am_gw from rfl) rfl rfl hnw (hts _ k1) k3 ⟨hfr, hlo⟩, hts _ (k7 hss), trivial⟩ ⟨hbl, hpre⟩ rfl hlen hL.1.1 (by show (ys ++ t).map _ = _; rw [List.map_append, List.map_reverse, List.reverse_reverse]) hwk hd ⟨hc1, hs1⟩
theorem ca_V {D : va_G} {cs : Nat → ClassId} {sa : Nat → Nat → Nat} {fm : Option Nat} {b0 : Nat} {xs : Nat → Int32} {Ls : Nat} {p : Program} {l : Launch} {e : Env} {R : Room} {s : State} {m : MethodId} {args : Array Value} {below : List Frame} {meth : Method} {c : Code} {H : Heap} {locs : List Loc} {lsC : Array Slot} {cells slots : Nat} {ad : Nat → Nat → Nat} {L : List (Nat × Nat)} {mid pc : Nat} {ls : List (Option am_V)} {M : am_M} {st t as : List am_V} {n a w : Nat} (hd : decode (am_by mid) pc = .ok (.invokevirtual n, 3)) (hk : am_wd w (.methodLink (am_own mid) n (am_y a)) = true) (hss : am_ss a = false) (hinn : am_in a = false) (hrc : ∃ q rs, as = .inr (.inr (some (am_ci a, q))) :: rs) (h0 : 0 < a) (ha : a < am_nm) (hp : am_pop (am_na a) st [] = some (as, t)) (hdp : am_dep t ≤ 8) (Z : am_Ho D cs sa fm b0 xs Ls p l e R s m args below meth c H locs lsC cells slots ad L mid ls (st) M) : am_RunOf p l e R s m args below meth c H locs cells slots (F0 m pc lsC (st.map (am_cv sa fm ad))) (t.map (am_cv sa fm ad)) a (as.map (am_cv sa fm ad)) := by
  obtain ⟨⟨hx, hb, hml, hown, hts, hr, hlk, hin⟩, hS, hR, hW, hL, hT⟩ := id Z
  obtain ⟨ys, y1, y2, y3⟩ := am_pop_s hp
  rw [List.append_nil] at y3
  subst y2; subst y3
  obtain ⟨k1, k2, k3, k4, k5, k6, k7, k8, k9, k10⟩ := am_mk_s h0 ha
  intro rm Pc Qc free hfr hlo hM hbl hpre hc1 hs1
  have hwk : 2 * (F0 m pc lsC ((ys ++ t).map (am_cv sa fm ad))).monitorRoom + ((t.map (am_cv sa fm ad)).map fun v => v.category).sum ≤ 8 := by rw [am_dep_c]; show 2 * 0 + am_dep t ≤ 8; omega
  obtain ⟨q, rs, hrv⟩ := hrc
  have hrv2 : ys = rs.reverse ++ [.inr (.inr (some (am_ci a, q)))] := by
    have := congrArg List.reverse hrv
    rw [List.reverse_reverse, List.reverse_cons] at this
    exact this
  have hok : am_okr L (some (am_ci a, q)) := hT (.inr (.inr (some (am_ci a, q)))) (by rw [hrv2]; simp)
  have hlen : (rs.map (am_cv sa fm ad)).length = am_np a := by
    have h1 := congrArg List.length hrv
    rw [List.length_reverse, y1, k5, hss, List.length_cons] at h1
    rw [List.length_map]
    simp only [Bool.false_eq_true, if_false] at h1
    omega
  have hav : (ys.reverse).map (am_cv sa fm ad) = am_cv sa fm ad (.inr (.inr (some (am_ci a, q)))) :: rs.map (am_cv sa fm ad) := by rw [hrv, List.map_cons]
  rw [hav] at hpre ⊢
  have hst : (ys ++ t).map (am_cv sa fm ad) = (rs.map (am_cv sa fm ad)).reverse ++ am_cv sa fm ad (.inr (.inr (some (am_ci a, q)))) :: t.map (am_cv sa fm ad) := by
    rw [hrv2, List.map_append, List.map_append, ← List.map_reverse]
    simp
  obtain ⟨k81, k82, k83⟩ := k8 hss
  rcases k83 with ⟨c1, c2⟩ | ⟨c1, c2⟩
  · have hi : (am_ci a, q) ∈ L := am_okr_in hok (by omega)
    obtain ⟨q0, hq0, hq1⟩ := am_ws_at (cs := cs) (ad := ad) (M := M) hi
    rw [am_ce_o c1] at hq1
    have hrcv := va_recv hS.1 hW.1 (am_cl_at _ c1) hq1
    rw [show (am_R (am_ci a), am_T (am_ci a), am_N (am_ci a)).1 = (am_y a).cls from c2] at hrcv
    rw [am_cv_r (show am_ci a ≤ 95 by omega)] at hpre hst ⊢
    exact va_runV (C := (am_y a).cls) (As := rs.map (am_cv sa fm ad)) (rest := t.map (am_cv sa fm ad)) ⟨hx, hb, hml, hown, hts⟩ hM ⟨callB_of (am_np a) hts (am_wsd_good h0 ha) (show am_wsd a = _ :: am_gw from rfl) rfl rfl (hts _ k1) (hts _ (am_gw_in hk rfl)) k3 ⟨hfr, hlo⟩, hts _ k81, hts _ (k82 hinn)⟩ ⟨hbl, hrcv, hpre⟩ rfl hlen hL.1.1 hst hwk hd ⟨hc1, hs1⟩
  · rw [c1] at hok hpre hst ⊢
    have hq : q < 7 := by simpa [am_okr] using hok
    have hrcv := vk_recv hS.2.2.2.2.1 hq hW.2.2.1
    rw [← c2] at hrcv
    rw [am_cv_x (g := 100) (by omega) (by omega)] at hpre hst ⊢
    exact va_runV (C := (am_y a).cls) (As := rs.map (am_cv sa fm ad)) (rest := t.map (am_cv sa fm ad)) ⟨hx, hb, hml, hown, hts⟩ hM ⟨callB_of (am_np a) hts (am_wsd_good h0 ha) (show am_wsd a = _ :: am_gw from rfl) rfl rfl (hts _ k1) (hts _ (am_gw_in hk rfl)) k3 ⟨hfr, hlo⟩, hts _ k81, hts _ (k82 hinn)⟩ ⟨hbl, hrcv, hpre⟩ rfl hlen hL.1.1 hst hwk hd ⟨hc1, hs1⟩
theorem ca_I {D : va_G} {cs : Nat → ClassId} {sa : Nat → Nat → Nat} {fm : Option Nat} {b0 : Nat} {xs : Nat → Int32} {Ls : Nat} {p : Program} {l : Launch} {e : Env} {R : Room} {s : State} {m : MethodId} {args : Array Value} {below : List Frame} {meth : Method} {c : Code} {H : Heap} {locs : List Loc} {lsC : Array Slot} {cells slots : Nat} {ad : Nat → Nat → Nat} {L : List (Nat × Nat)} {mid pc : Nat} {ls : List (Option am_V)} {M : am_M} {st t as : List am_V} {n a w : Nat} (hd : decode (am_by mid) pc = .ok (.invokespecial n, 3)) (hk : am_wd w (.methodLink (am_own mid) n (am_y a)) = true) (hss : am_ss a = false) (hinn : am_in a = true) (hrc : ∃ q rs, as = .inr (.inr (some (am_ci a, q))) :: rs) (h0 : 0 < a) (ha : a < am_nm) (hp : am_pop (am_na a) st [] = some (as, t)) (hdp : am_dep t ≤ 8) (Z : am_Ho D cs sa fm b0 xs Ls p l e R s m args below meth c H locs lsC cells slots ad L mid ls (st) M) : am_RunOf p l e R s m args below meth c H locs cells slots (F0 m pc lsC (st.map (am_cv sa fm ad))) (t.map (am_cv sa fm ad)) a (as.map (am_cv sa fm ad)) := by
  obtain ⟨⟨hx, hb, hml, hown, hts, hr, hlk, hin⟩, hS, hR, hW, hL, hT⟩ := id Z
  obtain ⟨ys, y1, y2, y3⟩ := am_pop_s hp
  rw [List.append_nil] at y3
  subst y2; subst y3
  obtain ⟨k1, k2, k3, k4, k5, k6, k7, k8, k9, k10⟩ := am_mk_s h0 ha
  intro rm Pc Qc free hfr hlo hM hbl hpre hc1 hs1
  have hwk : 2 * (F0 m pc lsC ((ys ++ t).map (am_cv sa fm ad))).monitorRoom + ((t.map (am_cv sa fm ad)).map fun v => v.category).sum ≤ 8 := by rw [am_dep_c]; show 2 * 0 + am_dep t ≤ 8; omega
  obtain ⟨q, rs, hrv⟩ := hrc
  have hrv2 : ys = rs.reverse ++ [.inr (.inr (some (am_ci a, q)))] := by
    have := congrArg List.reverse hrv
    rw [List.reverse_reverse, List.reverse_cons] at this
    exact this
  have hok : am_okr L (some (am_ci a, q)) := hT (.inr (.inr (some (am_ci a, q)))) (by rw [hrv2]; simp)
  have hlen : (rs.map (am_cv sa fm ad)).length = am_np a := by
    have h1 := congrArg List.length hrv
    rw [List.length_reverse, y1, k5, hss, List.length_cons] at h1
    rw [List.length_map]
    simp only [Bool.false_eq_true, if_false] at h1
    omega
  have hav : (ys.reverse).map (am_cv sa fm ad) = am_cv sa fm ad (.inr (.inr (some (am_ci a, q)))) :: rs.map (am_cv sa fm ad) := by rw [hrv, List.map_cons]
  rw [hav] at hpre ⊢
  have hst : (ys ++ t).map (am_cv sa fm ad) = (rs.map (am_cv sa fm ad)).reverse ++ am_cv sa fm ad (.inr (.inr (some (am_ci a, q)))) :: t.map (am_cv sa fm ad) := by
    rw [hrv2, List.map_append, List.map_append, ← List.map_reverse]
    simp
  obtain ⟨k81, k82, k83⟩ := k8 hss
  have hc95 : am_ci a ≤ 100 ∧ (am_ci a ≤ 95 ∨ 96 ≤ am_ci a) := by omega
  have hM : Met l (am_y a) (Cond.code (am_y a) (am_by a) (am_mx a) none :: am_gw) rm Pc Qc rm.cells rm.slots free := by rw [← (k4 hinn).2]; exact hM
  have hG : GoodIn am_gw (Cond.code (am_y a) (am_by a) (am_mx a) none :: am_gw) := by rw [← (k4 hinn).2]; exact am_wsd_good h0 ha
  have hcw := cwI (R := R) (rm := rm) (am_np a) hts hG rfl rfl rfl (hts _ k1) (hts _ (am_gw_in hk rfl)) (hts _ k81) (k4 hinn).1 k3 ⟨hfr, hlo⟩
  rcases hc95.2 with h95 | h95
  · rw [am_cv_r h95] at hpre hst ⊢
    exact va_runI (As := rs.map (am_cv sa fm ad)) (rest := t.map (am_cv sa fm ad)) ⟨hx, hb, hml, hown, hts⟩ hM hcw ⟨hbl, hpre⟩ rfl hlen hL.1.1 hst hwk hd ⟨hc1, hs1⟩
  · rw [am_cv_x h95 hc95.1] at hpre hst ⊢
    exact va_runI (As := rs.map (am_cv sa fm ad)) (rest := t.map (am_cv sa fm ad)) ⟨hx, hb, hml, hown, hts⟩ hM hcw ⟨hbl, hpre⟩ rfl hlen hL.1.1 hst hwk hd ⟨hc1, hs1⟩
/-- no word links a call of the law itself -/
def am_nolB : Cond → Bool
  | .methodLink _ _ y => decide (y ≠ am_y 0)
  | _ => true
set_option maxRecDepth 100000 in
theorem am_nol_dec : lw_tbl.all am_nolB = true := by decide +kernel
theorem am_nolaw (w : Cond) (h : w ∈ lw_tbl) : ∀ (own : String) (n : Nat), w ≠ .methodLink own n (am_y 0) := by
  intro own n e
  have h1 := List.all_eq_true.mp am_nol_dec w h
  rw [e] at h1
  have h1 : decide (am_y 0 ≠ am_y 0) = true := h1
  exact of_decide_eq_true h1 rfl
/-- what isn't an invoke is no call -/
def am_isC : Option am_Y → Prop
  | some (.inr (.inl _)) => False
  | _ => True
def am_noInv : Instr → Prop
  | .invokevirtual _ => False
  | .invokestatic _ => False
  | .invokespecial _ => False
  | _ => True
set_option maxHeartbeats 4000000 in
theorem am_ins_b {z : Prop} {cont jmp : am_F → am_M → Prop} {call : am_F → am_F → am_M → Prop} {ret : Option am_V → am_M → Prop} {mid pc nx a b c : Nat} {ls : List (Option am_V)} {st : List am_V} {M : am_M} {k : Int32} {sw : List (Int32 × Nat)} {ins : Instr} (hn : am_noInv ins) (h : z) (hcc : ∀ f M', cont f M') (hj : ∀ f, jmp f M) (hr : ∀ v, ret v M) : am_ins z cont jmp call ret mid pc ls st M ins nx a b c k sw := by
  have hc : ∀ f M', M.2.2.2.2.1 ≤ M'.2.2.2.2.1 → M.2.2.2.2.2 ≤ M'.2.2.2.2.2 → cont f M' := fun f M' _ _ => hcc f M'
  have hc0 : ∀ f M', M'.2.2.2.2 = M.2.2.2.2 → cont f M' := fun f M' e => hc f M' (by rw [e]; exact Nat.le_refl _) (by rw [e]; exact Nat.le_refl _)
  have hc1 : ∀ f, cont f M := fun f => hc0 f M rfl
  cases ins
  case iconst => exact hc1 _
  case bipush => exact hc1 _
  case sipush => exact hc1 _
  case ldc => exact am_cnd_a (hc1 _) (hc1 _)
  case ldc_w => exact hc1 _
  case lconst => exact hc1 _
  case ldc2_w => exact hc1 _
  case aconst_null => exact hc1 _
  case iload_n => exact am_iv_a h (fun _ => hc1 _)
  case iload => exact am_iv_a h (fun _ => hc1 _)
  case lload_n => exact am_lv_a h (fun _ => hc1 _)
  case lload => exact am_lv_a h (fun _ => hc1 _)
  case aload_n => exact am_qv_a h (fun _ => hc1 _)
  case aload => exact am_qv_a h (fun _ => hc1 _)
  case istore_n => exact am_cnd_a h (am_i1_a h (fun _ _ => hc1 _))
  case istore => exact am_cnd_a h (am_i1_a h (fun _ _ => hc1 _))
  case astore_n => exact am_cnd_a h (am_q1_a h (fun _ _ => am_al_a h (hc1 _)))
  case astore => exact am_cnd_a h (am_q1_a h (fun _ _ => am_al_a h (hc1 _)))
  case iinc => exact am_cnd_a h (am_iv_a h (fun _ => hc1 _))
  case idiv => exact am_i2_a h (fun _ _ _ => am_ite_a h (hc1 _))
  case irem => exact am_i2_a h (fun _ _ _ => am_ite_a h (hc1 _))
  case dup => exact am_r1_a h (fun _ _ _ => hc1 _)
  case dup2 => exact am_i1_a h (fun _ _ => am_r1_a h (fun _ _ _ => hc1 _))
  case goto => exact am_cnd_a (hj _) (hc1 _)
  case ifCond => exact am_i1_a h (fun _ _ => am_ifc_a (am_cnd_a (hj _) (hc1 _)) (hc1 _))
  case if_icmp => exact am_i2_a h (fun _ _ _ => am_icm_a (am_cnd_a (hj _) (hc1 _)) (hc1 _))
  case ifnull => exact am_q1_a h (fun _ _ => am_nl_a h (hc1 _) (hc1 _))
  case ifnonnull => exact am_q1_a h (fun _ _ => am_nl_a h (hc1 _) (hc1 _))
  case tableswitch => exact am_i1_a h (fun _ _ => am_sw_a (fun _ => hc1 _) _)
  case lookupswitch => exact am_i1_a h (fun _ _ => am_sw_a (fun _ => hc1 _) _)
  case getfield => exact am_r1_a h (fun _ _ _ => am_cnd_a (am_cnd_a (am_cnd_a (hc1 _) (hc1 _)) (am_cnd_a (hc1 _) (hc1 _))) h)
  case putfield => exact am_put_a h hc0
  case getstatic => exact am_gst_a h hc1
  case iaload => exact am_i1_a h (fun _ _ => am_r1_a h (fun _ _ _ => am_cnd_a (am_ite_a h (hc1 _)) h))
  case baload => exact am_i1_a h (fun _ _ => am_r1_a h (fun _ _ _ => am_cnd_a (am_ite_a h (hc1 _)) h))
  case iastore => exact am_i2_a h (fun _ _ _ => am_r1_a h (fun _ _ _ => am_cnd_a (am_ite_a h (hc0 _ _ rfl)) h))
  case aaload => exact am_i1_a h (fun _ _ => am_r1_a h (fun _ _ _ => am_cnd_a (am_ite_a h (hc1 _)) h))
  case aastore => exact am_r1_a h (fun _ _ _ => am_i1_a h (fun _ _ => am_r1_a h (fun _ _ _ => am_cnd_a (am_ite_a h (hc0 _ _ rfl)) h)))
  case arraylength => exact am_r1_a h (fun _ _ _ => am_cnd_a (hc1 _) h)
  case new => exact am_cnd_a (hc _ _ (Nat.le_succ _) (Nat.le_add_right _ _)) h
  case newarray => exact am_i1_a h (fun _ _ => am_cnd_a (am_ite_a h (hc _ _ (Nat.le_succ _) (Nat.le_add_right _ _))) h)
  case anewarray => exact am_i1_a h (fun _ _ => am_cnd_a (am_ite_a h (hc _ _ (Nat.le_succ _) (Nat.le_add_right _ _))) h)
  case invokevirtual => exact (hn : False).elim
  case invokestatic => exact (hn : False).elim
  case invokespecial => exact (hn : False).elim
  case ireturn => exact am_irt_a h hr
  case areturn => exact am_q1_a h (fun _ _ => am_nil_a h (am_cnd_a (hr _) h))
  case return_ => exact am_nil_a h (am_cnd_a (hr _) h)
  all_goals first | exact h | exact am_i2_a h (fun _ _ _ => hc1 _) | exact am_i1_a h (fun _ _ => hc1 _) | exact am_l2_a h (fun _ _ _ => hc1 _)
theorem am_noc {mid pc : Nat} {ls : List (Option am_V)} {st : List am_V} {M M1 : am_M} {ins : Instr} {nx a b ci : Nat} {k : Int32} {sw : List (Int32 × Nat)} {e0 f' : am_F} (hf : am_insO mid pc ls st M ins nx a b ci k sw = some (.inr (.inl (e0, f', M1)))) (hn : am_noInv ins := by trivial) : False := by
  have h : am_isC (am_insO mid pc ls st M ins nx a b ci k sw) := by
    rw [am_ins_n am_isC]
    exact am_ins_b hn trivial (fun _ _ => trivial) (fun _ => trivial) (fun _ => trivial)
  rw [hf] at h
  exact h
theorem am_stepC {D : va_G} {cs : Nat → ClassId} {sa : Nat → Nat → Nat} {fm : Option Nat} {b0 : Nat} {xs : Nat → Int32} {Ls : Nat} {p : Program} {l : Launch} {e : Env} {R : Room} {s : State} {m : MethodId} {args : Array Value} {below : List Frame} {meth : Method} {c : Code} {H : Heap} {locs : List Loc} {lsC : Array Slot} {cells slots : Nat} {ad : Nat → Nat → Nat} {L : List (Nat × Nat)} {mid pc : Nat} {ls : List (Option am_V)} {M : am_M} {st : List am_V} {e0 f' : am_F} {M1 : am_M} (hf : am_fn (mid, pc, ls, st) M = some (.inr (.inl (e0, f', M1)))) (Z : am_Ho D cs sa fm b0 xs Ls p l e R s m args below meth c H locs lsC cells slots ad L mid ls (st) M) :
    ∃ (a : Nat) (as t : List am_V), e0 = am_entry a as ∧ f' = (mid, pc + 3, ls, t) ∧ M1 = M ∧ 0 < a ∧ a < am_nm ∧ am_dep as ≤ am_mx a ∧ (am_hl a = true ∨ am_dep as = as.length) ∧ (∀ v ∈ as, am_okv L v) ∧ (∀ v ∈ t, am_okv L v) ∧ am_RunOf p l e R s m args below meth c H locs cells slots (F0 m pc lsC (st.map (am_cv sa fm ad))) (t.map (am_cv sa fm ad)) a (as.map (am_cv sa fm ad)) := by
  cases hc : am_code mid pc with
  | none => rw [am_fn_none hc] at hf; cases hf
  | some x =>
    obtain ⟨ins, nx, a, b, ci, w, k, sw⟩ := x
    have hv := am_vd hc
    rw [am_fn_at hc] at hf
    have hT := Z.2.2.2.2.2
    have key : ∀ (as t : List am_V), am_pop (am_na a) st [] = some (as, t) → as.length = am_na a ∧ (∀ v ∈ as, am_okv L v) ∧ ∀ v ∈ t, am_okv L v := by
      intro as t hp
      obtain ⟨ys, y1, y2, y3⟩ := am_pop_s hp
      rw [List.append_nil] at y3
      subst y2; subst y3
      exact ⟨by rw [List.length_reverse, y1], fun v hv => hT v (List.mem_append_left _ (List.mem_reverse.mp hv)), fun v hv => hT v (List.mem_append_right _ hv)⟩
    have hno : ∀ {α : Type} {P : Prop} {x y : α} {z z' : Option am_Y}, z = some (.inr (.inl (e0, f', M1))) → (∃ b f M, z = some (.inl (b, f, M))) → P := by
      rintro α P x y z z' h1 ⟨b, f, M, h2⟩
      rw [h2] at h1
      cases h1
    cases ins
    case invokevirtual n =>
      simp only [am_ckB, am_ckX, am_ln, Bool.and_eq_true, Bool.or_eq_true, Nat.beq_eq, Nat.ble_eq] at hv
      have hf : am_inv none am_cC am_cL mid nx ls st M a b = some (.inr (.inl (e0, f', M1))) := hf
      obtain ⟨⟨hd, rfl⟩, hv⟩ := hv
      have hd := of_decide_eq_true hd
      rcases am_inv_s hf with ⟨hb, hf⟩ | ⟨rfl, x, y, t, -, -, hf⟩ | ⟨rfl, x, y, t, -, -, hf⟩ | ⟨rfl, x, t, -, -, hf⟩ | ⟨rfl, nn, dp, gd, od, sp, gs, os, t, -, -, -, -, -, -, -, hf⟩ | ⟨rfl, g, q, t, -, -, -, hf⟩
      · obtain ⟨as, t, hp, h1, h2, h3, h4, hf⟩ := am_cl1_s hf
        cases hf
        rcases hv with hv | ⟨⟨⟨⟨hb0, hk⟩, hs⟩, hi⟩, hn⟩
        · omega
        · have hs : am_ss a = false := by simpa using hs
          have hi : am_in a = false := by simpa using hi
          have h0 : 0 < a := Nat.pos_of_ne_zero (fun z => by subst z; exact absurd hs (by decide))
          obtain ⟨g1, g2, g3⟩ := key as t hp
          exact ⟨a, as, t, rfl, rfl, rfl, h0, hn, h2, by rw [g1]; exact h3, g2, g3, ca_V hd hk hs hi (h4 hs) h0 hn hp h1 Z⟩
      all_goals cases hf
    case invokestatic n =>
      simp only [am_ckB, am_ckX, am_ln, Bool.and_eq_true, Nat.beq_eq] at hv
      have hf : am_inv none am_cC am_cL mid nx ls st M a b = some (.inr (.inl (e0, f', M1))) := hf
      obtain ⟨⟨hd, rfl⟩, hv⟩ := hv
      have hd := of_decide_eq_true hd
      rcases am_inv_s hf with ⟨hb, hf⟩ | ⟨rfl, x, y, t, -, -, hf⟩ | ⟨rfl, x, y, t, -, -, hf⟩ | ⟨rfl, x, t, -, -, hf⟩ | ⟨rfl, nn, dp, gd, od, sp, gs, os, t, -, -, -, -, -, -, -, hf⟩ | ⟨rfl, g, q, t, -, -, -, hf⟩
      · obtain ⟨as, t, hp, h1, h2, h3, h4, hf⟩ := am_cl1_s hf
        cases hf
        obtain ⟨g1, g2, g3⟩ := key as t hp
        rcases hb with rfl | rfl
        · have hv : (am_wd w (.methodLink (am_own mid) n (am_y a)) && am_ss a && Nat.ble (a + 1) am_nm) = true := hv
          simp only [Bool.and_eq_true, Nat.ble_eq] at hv
          obtain ⟨⟨hk, hs⟩, hn⟩ := hv
          have h0 : 0 < a := Nat.pos_of_ne_zero (fun z => by
            subst z
            unfold am_wd at hk
            have hk := of_decide_eq_true hk
            have := am_nolaw _ (List.mem_of_getElem? hk)
            exact this (am_own mid) n rfl)
          exact ⟨a, as, t, rfl, rfl, rfl, h0, hn, h2, by rw [g1]; exact h3, g2, g3, ca_S hd hk hs h0 hn hp h1 Z⟩
        · have hv : (decide (am_ns ci = (am_own mid, n, a)) && am_ss a && Nat.ble (a + 1) am_nm && Nat.ble ci 2) = true := hv
          simp only [Bool.and_eq_true, Nat.ble_eq, decide_eq_true_eq] at hv
          obtain ⟨⟨⟨hk, hs⟩, hn⟩, hi⟩ := hv
          have h0 : 0 < a := by
            have e : a = (am_ns ci).2.2 := by rw [hk]
            rw [e]
            rcases (show ci = 0 ∨ ci = 1 ∨ ci = 2 by omega) with rfl | rfl | rfl <;> decide
          exact ⟨a, as, t, rfl, rfl, rfl, h0, hn, h2, by rw [g1]; exact h3, g2, g3, ca_SN (w := 0) hd hk hi hs h0 hn hp h1 Z⟩
      all_goals cases hf
    case invokespecial n =>
      simp only [am_ckB, am_ckX, am_ln, Bool.and_eq_true, Nat.beq_eq] at hv
      have hf : am_inv none am_cC am_cL mid nx ls st M a b = some (.inr (.inl (e0, f', M1))) := hf
      obtain ⟨⟨hd, rfl⟩, hv⟩ := hv
      have hd := of_decide_eq_true hd
      rcases am_inv_s hf with ⟨hb, hf⟩ | ⟨rfl, x, y, t, -, -, hf⟩ | ⟨rfl, x, y, t, -, -, hf⟩ | ⟨rfl, x, t, -, -, hf⟩ | ⟨rfl, nn, dp, gd, od, sp, gs, os, t, -, -, -, -, -, -, -, hf⟩ | ⟨rfl, g, q, t, -, -, -, hf⟩
      · obtain ⟨as, t, hp, h1, h2, h3, h4, hf⟩ := am_cl1_s hf
        cases hf
        obtain ⟨g1, g2, g3⟩ := key as t hp
        have hb9 : Nat.beq b 9 = false := by rcases hb with rfl | rfl <;> rfl
        rw [hb9] at hv
        simp only [cond_false, Bool.and_eq_true, Nat.beq_eq, Nat.ble_eq] at hv
        obtain ⟨⟨⟨⟨hb0, hk⟩, hs⟩, hi⟩, hn⟩ := hv
        have hs : am_ss a = false := by simpa using hs
        have h0 : 0 < a := Nat.pos_of_ne_zero (fun z => by subst z; exact absurd hs (by decide))
        exact ⟨a, as, t, rfl, rfl, rfl, h0, hn, h2, by rw [g1]; exact h3, g2, g3, ca_I hd hk hs hi (h4 hs) h0 hn hp h1 Z⟩
      all_goals cases hf
    all_goals (exfalso; exact am_noc hf)
