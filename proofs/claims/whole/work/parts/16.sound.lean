def am_noRet : Instr → Prop
  | .ireturn => False
  | .areturn => False
  | .return_ => False
  | _ => True
set_option maxHeartbeats 4000000 in
theorem am_ins_c {z : Prop} {cont jmp : am_F → am_M → Prop} {call : am_F → am_F → am_M → Prop} {ret : Option am_V → am_M → Prop} {mid pc nx a b c : Nat} {ls : List (Option am_V)} {st : List am_V} {M : am_M} {k : Int32} {sw : List (Int32 × Nat)} {ins : Instr} (hn : am_noRet ins) (h : z) (hcc : ∀ f M', cont f M') (hj : ∀ f, jmp f M) (hk : ∀ e f, call e f M) : am_ins z cont jmp call ret mid pc ls st M ins nx a b c k sw := by
  have hc : ∀ f M', M.2.2.2.2.1 ≤ M'.2.2.2.2.1 → M.2.2.2.2.2 ≤ M'.2.2.2.2.2 → cont f M' := fun f M' _ _ => hcc f M'
  have hc0 : ∀ f M', M'.2.2.2.2 = M.2.2.2.2 → cont f M' := fun f M' e => hc f M' (by rw [e]; exact Nat.le_refl _) (by rw [e]; exact Nat.le_refl _)
  have hc1 : ∀ f, cont f M := fun f => hc0 f M rfl
  cases ins
  case iconst => exact hc1 _
  case bipush => exact hc1 _
  case sipush => exact hc1 _
  case ldc => exact am_cnd_a (hc1 _) (hc1 _)
  case ldc_w => exact hc1 _
  case lconst => exact hc1 _
  case ldc2_w => exact hc1 _
  case aconst_null => exact hc1 _
  case iload_n => exact am_iv_a h (fun _ => hc1 _)
  case iload => exact am_iv_a h (fun _ => hc1 _)
  case lload_n => exact am_lv_a h (fun _ => hc1 _)
  case lload => exact am_lv_a h (fun _ => hc1 _)
  case aload_n => exact am_qv_a h (fun _ => hc1 _)
  case aload => exact am_qv_a h (fun _ => hc1 _)
  case istore_n => exact am_cnd_a h (am_i1_a h (fun _ _ => hc1 _))
  case istore => exact am_cnd_a h (am_i1_a h (fun _ _ => hc1 _))
  case astore_n => exact am_cnd_a h (am_q1_a h (fun _ _ => am_al_a h (hc1 _)))
  case astore => exact am_cnd_a h (am_q1_a h (fun _ _ => am_al_a h (hc1 _)))
  case iinc => exact am_cnd_a h (am_iv_a h (fun _ => hc1 _))
  case idiv => exact am_i2_a h (fun _ _ _ => am_ite_a h (hc1 _))
  case irem => exact am_i2_a h (fun _ _ _ => am_ite_a h (hc1 _))
  case dup => exact am_r1_a h (fun _ _ _ => hc1 _)
  case dup2 => exact am_i1_a h (fun _ _ => am_r1_a h (fun _ _ _ => hc1 _))
  case goto => exact am_cnd_a (hj _) (hc1 _)
  case ifCond => exact am_i1_a h (fun _ _ => am_ifc_a (am_cnd_a (hj _) (hc1 _)) (hc1 _))
  case if_icmp => exact am_i2_a h (fun _ _ _ => am_icm_a (am_cnd_a (hj _) (hc1 _)) (hc1 _))
  case ifnull => exact am_q1_a h (fun _ _ => am_nl_a h (hc1 _) (hc1 _))
  case ifnonnull => exact am_q1_a h (fun _ _ => am_nl_a h (hc1 _) (hc1 _))
  case tableswitch => exact am_i1_a h (fun _ _ => am_sw_a (fun _ => hc1 _) _)
  case lookupswitch => exact am_i1_a h (fun _ _ => am_sw_a (fun _ => hc1 _) _)
  case getfield => exact am_r1_a h (fun _ _ _ => am_cnd_a (am_cnd_a (am_cnd_a (hc1 _) (hc1 _)) (am_cnd_a (hc1 _) (hc1 _))) h)
  case putfield => exact am_put_a h hc0
  case getstatic => exact am_gst_a h hc1
  case iaload => exact am_i1_a h (fun _ _ => am_r1_a h (fun _ _ _ => am_cnd_a (am_ite_a h (hc1 _)) h))
  case baload => exact am_i1_a h (fun _ _ => am_r1_a h (fun _ _ _ => am_cnd_a (am_ite_a h (hc1 _)) h))
  case iastore => exact am_i2_a h (fun _ _ _ => am_r1_a h (fun _ _ _ => am_cnd_a (am_ite_a h (hc0 _ _ rfl)) h))
  case aaload => exact am_i1_a h (fun _ _ => am_r1_a h (fun _ _ _ => am_cnd_a (am_ite_a h (hc1 _)) h))
  case aastore => exact am_r1_a h (fun _ _ _ => am_i1_a h (fun _ _ => am_r1_a h (fun _ _ _ => am_cnd_a (am_ite_a h (hc0 _ _ rfl)) h)))
  case arraylength => exact am_r1_a h (fun _ _ _ => am_cnd_a (hc1 _) h)
  case new => exact am_cnd_a (hc _ _ (Nat.le_succ _) (Nat.le_add_right _ _)) h
  case newarray => exact am_i1_a h (fun _ _ => am_cnd_a (am_ite_a h (hc _ _ (Nat.le_succ _) (Nat.le_add_right _ _))) h)
  case anewarray => exact am_i1_a h (fun _ _ => am_cnd_a (am_ite_a h (hc _ _ (Nat.le_succ _) (Nat.le_add_right _ _))) h)
  case invokevirtual => exact am_inv_a h hc0 hk
  case invokestatic => exact am_inv_a h hc0 hk
  case invokespecial => exact am_inv_a h hc0 hk
  case ireturn => exact (hn : False).elim
  case areturn => exact (hn : False).elim
  case return_ => exact (hn : False).elim
  all_goals first | exact h | exact am_i2_a h (fun _ _ _ => hc1 _) | exact am_i1_a h (fun _ _ => hc1 _) | exact am_l2_a h (fun _ _ _ => hc1 _)
def am_isR : Option am_Y → Prop
  | some (.inr (.inr _)) => False
  | _ => True
theorem am_nor {mid pc : Nat} {ls : List (Option am_V)} {st : List am_V} {M M1 : am_M} {ins : Instr} {nx a b ci : Nat} {k : Int32} {sw : List (Int32 × Nat)} {v : Option am_V} (hf : am_insO mid pc ls st M ins nx a b ci k sw = some (.inr (.inr (v, M1)))) (hn : am_noRet ins := by trivial) : False := by
  have h : am_isR (am_insO mid pc ls st M ins nx a b ci k sw) := by
    rw [am_ins_n am_isR]
    exact am_ins_c hn trivial (fun _ _ => trivial) (fun _ => trivial) (fun _ _ => trivial)
  rw [hf] at h
  exact h
def am_nar (k : Nat) (x : Int32) : Prop := k = 1 ∨ (k = 2 ∧ x &&& 1 = x) ∨ (k = 3 ∧ x.toUInt32.toUInt16.toUInt32.toInt32 = x) ∨ (k = 4 ∧ x.toInt8.toInt32 = x)
/-- the frame stands at its return -/
def am_rok (mid pc : Nat) (L : List (Nat × Nat)) : Option am_V → Prop
  | none => decode (am_by mid) pc = .ok (.return_, 1) ∧ am_rk mid = 0
  | some (.inl x) => decode (am_by mid) pc = .ok (.ireturn, 1) ∧ am_nar (am_rk mid) x
  | some (.inr (.inl _)) => False
  | some (.inr (.inr r)) => decode (am_by mid) pc = .ok (.areturn, 1) ∧ am_rk mid = 5 ∧ am_okr L r
theorem am_stepR {mid pc : Nat} {ls : List (Option am_V)} {st : List am_V} {M M1 : am_M} {v : Option am_V} {L : List (Nat × Nat)} (hf : am_fn (mid, pc, ls, st) M = some (.inr (.inr (v, M1)))) (hT : ∀ w ∈ st, am_okv L w) : M1 = M ∧ am_rok mid pc L v ∧ st = v.toList := by
  cases hc : am_code mid pc with
  | none => rw [am_fn_none hc] at hf; cases hf
  | some x =>
    obtain ⟨ins, nx, a, b, ci, w, k, sw⟩ := x
    have hv := am_vd hc
    rw [am_fn_at hc] at hf
    cases ins
    case ireturn =>
      simp only [am_ckB, am_ckX, am_ln, Bool.and_eq_true, Nat.beq_eq] at hv
      have hd := of_decide_eq_true hv.1.1
      obtain ⟨x, h1, h2, hf⟩ := am_irt_s (ret := am_cR) (mid := mid) (st := st) (M := M) hf
      cases hf
      exact ⟨rfl, ⟨hd, h2⟩, h1⟩
    case areturn =>
      simp only [am_ckB, am_ckX, am_ln, Bool.and_eq_true, Nat.beq_eq] at hv
      have hd := of_decide_eq_true hv.1.1
      obtain ⟨r, t, rfl, hf⟩ := am_q1_s hf
      obtain ⟨rfl, hf⟩ := am_nil_s hf
      obtain ⟨hk, hf⟩ := am_cnd_s hf
      cases hf
      exact ⟨rfl, ⟨hd, Nat.eq_of_beq_eq_true hk, am_oh hT⟩, rfl⟩
    case return_ =>
      simp only [am_ckB, am_ckX, am_ln, Bool.and_eq_true, Nat.beq_eq] at hv
      have hd := of_decide_eq_true hv.1.1
      obtain ⟨rfl, hf⟩ := am_nil_s hf
      obtain ⟨hk, hf⟩ := am_cnd_s hf
      cases hf
      exact ⟨rfl, ⟨hd, Nat.eq_of_beq_eq_true hk⟩, rfl⟩
    all_goals (exfalso; exact am_nor hf)
/-- THE ABSTRACT MACHINE IS SOUND, for runs of n steps -/
def am_Pn (D : va_G) (cs : Nat → ClassId) (sa : Nat → Nat → Nat) (fm : Option Nat) (b0 : Nat) (xs : Nat → Int32) (Ls : Nat) (l : Launch) (n : Nat) : Prop := ∀ (mid pc : Nat) (ls : List (Option am_V)) (st : List am_V) (M : am_M) (d : Nat) (v : Option am_V) (M' : am_M), am_run n [(mid, pc, ls, st)] d M = some (v, M') →
  ∀ (p : Program) (e : Env) (R : Room) (s : State) (m : MethodId) (args : Array Value) (below : List Frame) (meth : Method) (c : Code) (Qw : State → Prop) (H : Heap) (locs : List Loc) (lsC : Array Slot) (cells slots : Nat) (ad : Nat → Nat → Nat) (L : List (Nat × Nat)),
    am_Ho D cs sa fm b0 xs Ls p l e R s m args below meth c H locs lsC cells slots ad L mid ls st M → d + 1 ≤ R.frames → 60 * (d + 1) ≤ R.locals → cells + M'.2.2.2.2.1 ≤ R.cells + M.2.2.2.2.1 → slots + M'.2.2.2.2.2 ≤ R.slots + M.2.2.2.2.2 →
    (∀ (pc1 : Nat) (H1 : Heap) (locs1 : List Loc) (lsC1 : Array Slot) (cells1 slots1 : Nat) (ad1 : Nat → Nat → Nat) (L1 : List (Nat × Nat)), cells1 + M.2.2.2.2.1 = cells + M'.2.2.2.2.1 → slots1 + M.2.2.2.2.2 = slots + M'.2.2.2.2.2 → am_xt L L1 ad ad1 → am_Wl D cs b0 xs Ls s M' ad1 L1 H1 locs1 → am_rok mid pc1 L1 v →
      W p l e R s m args below meth c H1 locs1 cells1 slots1 Qw (F0 m pc1 lsC1 (v.toList.map (am_cv sa fm ad1)))) →
    W p l e R s m args below meth c H locs cells slots Qw (F0 m pc lsC (st.map (am_cv sa fm ad)))
def am_Pc (D : va_G) (cs : Nat → ClassId) (sa : Nat → Nat → Nat) (fm : Option Nat) (b0 : Nat) (xs : Nat → Int32) (Ls : Nat) (M : am_M) (ad : Nat → Nat → Nat) (L : List (Nat × Nat)) (as : List am_V) : Array Value → State → Prop := fun av U =>
  av = (as.map (am_cv sa fm ad)).toArray ∧ b0 ≤ U.heap.size ∧ am_Sc D cs sa fm b0 xs Ls U U.heap ∧ va_P D am_cl (am_ws cs ad M L) U.heap ∧ va_D (fun q => b0 ≤ q) (am_ws cs ad M L) ∧ am_wf xs Ls L M ∧ ∀ v ∈ as, am_okv L v
def am_Qc (D : va_G) (cs : Nat → ClassId) (sa : Nat → Nat → Nat) (fm : Option Nat) (b0 : Nat) (xs : Nat → Int32) (Ls : Nat) (M' : am_M) (ad : Nat → Nat → Nat) (L : List (Nat × Nat)) (v : Option am_V) : Array Value → State → Outcome → State → Prop := fun _ st oc t =>
  ∃ (ad1 : Nat → Nat → Nat) (L1 : List (Nat × Nat)), oc = .returned (v.map (am_cv sa fm ad1)) ∧ am_xt L L1 ad ad1 ∧ va_P D am_cl (am_ws cs ad1 M' L1) t.heap ∧ va_D (fun q => b0 ≤ q) (am_ws cs ad1 M' L1) ∧ am_wf xs Ls L1 M' ∧ (∀ w, v = some w → am_okv L1 w) ∧ va_F (fun q => b0 ≤ q) st t
theorem am_Pc_bl {D : va_G} {cs : Nat → ClassId} {sa : Nat → Nat → Nat} {fm : Option Nat} {b0 : Nat} {xs : Nat → Int32} {Ls : Nat} {M : am_M} {ad : Nat → Nat → Nat} {L : List (Nat × Nat)} {as : List am_V} : FrameBlind (am_Pc D cs sa fm b0 xs Ls M ad L as) := fun a U g mk h => by
  obtain ⟨h1, h2, h3, h4, h5, h6, h7⟩ := h
  exact ⟨h1, h2, am_Sc_call h3, h4, h5, h6, h7⟩
theorem am_met {D : va_G} {cs : Nat → ClassId} {sa : Nat → Nat → Nat} {fm : Option Nat} {b0 : Nat} {xs : Nat → Int32} {Ls : Nat} {l : Launch} {n : Nat} (ih : am_Pn D cs sa fm b0 xs Ls l n) {a : Nat} {as : List am_V} {M : am_M} {d : Nat} {v : Option am_V} {M' : am_M} {ad : Nat → Nat → Nat} {L : List (Nat × Nat)} (h0 : 0 < a) (ha : a < am_nm) (hdp : am_dep as ≤ am_mx a) (hhl : am_hl a = true ∨ am_dep as = as.length) (hrun : am_run n [am_entry a as] d M = some (v, M')) :
    Met l (am_y a) (am_wsd a) ({ frames := d + 1, cells := M'.2.2.2.2.1 - M.2.2.2.2.1, slots := M'.2.2.2.2.2 - M.2.2.2.2.2, locals := 60 * (d + 1) } : Room) (am_Pc D cs sa fm b0 xs Ls M ad L as) (am_Qc D cs sa fm b0 xs Ls M' ad L v) (M'.2.2.2.2.1 - M.2.2.2.2.1) (M'.2.2.2.2.2 - M.2.2.2.2.2) (fun q => b0 ≤ q) := by
  obtain ⟨k1, k2, k3, k4, k5, k6, k7, k8, k9, k10⟩ := am_mk_s h0 ha
  obtain ⟨mn1, mn2⟩ := am_run_mn _ _ _ _ hrun
  refine Met.ofW (cc := am_by a) (maxL := am_mx a) (ret := am_rt a) k2 (ws' := am_gw) rfl ?_
  intro p e s m args below meth c s₁ B hml hv
  obtain ⟨rfl, hb0, hSc, hP, hD, hwf, hok⟩ := hv
  have hts := atoms_spec (ws := am_wsd a) B.pre
  have hown : s.vm.findClass (am_own a) = some m.cls := by rw [k6]; exact findClass_of_methodNamed B.named
  have hnm : am_in a = true → meth.name = "<init>" := fun hi => by rw [← (k4 hi).1]; exact (name_of_methodNamed B.named B.method).1
  have hcx : am_Cx p s m _ meth c a := ⟨B.exec, B.bytes, hml, hown, fun w hw => hts w (List.mem_cons_of_mem _ hw), B.returns, B.notSynchronized, hnm⟩
  have hl := lv_entry (as.map (am_cv sa fm ad)) (n := am_mx a) (by rw [am_sl_len (am_cv_cat sa fm ad)]; exact hdp)
  rw [lg_entry_eq]
  generalize (lg_sl (as.map (am_cv sa fm ad)) ++ List.replicate (am_mx a - (lg_sl (as.map (am_cv sa fm ad))).length) Slot.unset).toArray = lsC at hl ⊢
  have hLc : am_Lc sa fm a (am_pad (am_mx a) (am_lay as)) ad L lsC := by
    refine ⟨am_lvm hl (fun q hq => am_args_in (am_cv_cat sa fm ad) hq), fun hh x hx => ?_, fun w hw => hok w (am_lay_mem (am_pad_mem hw))⟩
    rcases hhl with h | h
    · rw [h] at hh; cases hh
    · exact am_dep_one h x (am_lay_mem (am_pad_mem hx))
  refine ih a 0 (am_pad (am_mx a) (am_lay as)) [] M d v M' hrun p e _ s m _ below meth c _ s.heap [] lsC 0 0 ad L ⟨hcx, hSc, ⟨hb0, by show 1 ≤ d + 1; omega, by show 60 ≤ 60 * (d + 1); omega, Nat.zero_le _, Nat.zero_le _⟩, ⟨hP, hD, va_S.rf, hwf⟩, hLc, fun _ h => by cases h⟩ (Nat.le_refl _) (Nat.le_refl _) (by show 0 + _ ≤ _ - _ + _; omega) (by show 0 + _ ≤ _ - _ + _; omega) ?_
  intro pc1 H1 locs1 lsC1 cells1 slots1 ad1 L1 e1 e2 hxt hWl hrk
  have e1 : cells1 = M'.2.2.2.2.1 - M.2.2.2.2.1 := by omega
  have e2 : slots1 = M'.2.2.2.2.2 - M.2.2.2.2.2 := by omega
  subst e1; subst e2
  obtain ⟨hP1, hD1, hS1, hwf1⟩ := hWl
  have hlk : meth.locks = false := B.notSynchronized
  rcases v with _ | (x | x | r)
  · have hr : meth.sig.returnType = none := by rw [B.returns]; exact k9.1 hrk.2
    exact W.vret B.exec B.bytes hr (fun t ht hW => ⟨ad1, L1, rfl, hxt, by rw [ht]; exact hP1, hD1, hwf1, fun w h => (by cases h), hS1.F ht⟩) hS1.2.2 hrk.1 hlk
  · obtain ⟨ty, hty, hn⟩ : ∃ ty, am_rt a = some ty ∧ narrow ty (.int x) = .int x := by
      rcases hrk.2 with h | ⟨h, hx⟩ | ⟨h, hx⟩ | ⟨h, hx⟩
      · exact ⟨_, k9.2.1 h, rfl⟩
      · exact ⟨_, k9.2.2.1 h, congrArg Value.int hx⟩
      · exact ⟨_, k9.2.2.2.1 h, congrArg Value.int hx⟩
      · exact ⟨_, k9.2.2.2.2.1 h, congrArg Value.int hx⟩
    exact W.zret B.exec B.bytes (by rw [B.returns]; exact hty) hn (fun t ht hW => ⟨ad1, L1, rfl, hxt, by rw [ht]; exact hP1, hD1, hwf1, fun w h => (by cases h; trivial), hS1.F ht⟩) hS1.2.2 hrk.1 hlk
  · exact (hrk : False).elim
  · obtain ⟨ty, hty, hrt⟩ := k9.2.2.2.2.2 hrk.2.1
    exact W.aret B.exec B.bytes (by rw [B.returns]; exact hty) hrt (am_rv_c sa fm ad1 r) (fun t ht hW => ⟨ad1, L1, rfl, hxt, by rw [ht]; exact hP1, hD1, hwf1, fun w h => by cases h; exact hrk.2.2, hS1.F ht⟩) hS1.2.2 hrk.1 hlk
theorem am_sound_st {D : va_G} {cs : Nat → ClassId} {sa : Nat → Nat → Nat} {fm : Option Nat} {b0 : Nat} {xs : Nat → Int32} {Ls : Nat} {l : Launch} {n : Nat} (ih : ∀ k, k ≤ n → am_Pn D cs sa fm b0 xs Ls l k) : am_Pn D cs sa fm b0 xs Ls l (n + 1) := by
  intro mid pc ls st M d v M' hrun p e R s m args below meth c Qw H locs lsC cells slots ad L Z hfr hlo hcl hsl hret
  obtain ⟨hC, hSc, hR, hW, hL, hT⟩ := id Z
  have hm := am_fn_mn (mid, pc, ls, st) M
  rw [am_run] at hrun
  rcases hf : am_fn (mid, pc, ls, st) M with _ | ⟨⟨b, ⟨mid', pc', ls', st'⟩, M1⟩ | ⟨e0, f', M1⟩ | ⟨w, M1⟩⟩
  · rw [hf] at hrun; cases hrun
  · rw [hf] at hrun hm
    have hrun : am_run n [(mid', pc', ls', st')] d M1 = some (v, M') := hrun
    obtain ⟨m1, m2⟩ := am_run_mn _ _ _ _ hrun
    have hm : M.2.2.2.2.1 ≤ M1.2.2.2.2.1 ∧ M.2.2.2.2.2 ≤ M1.2.2.2.2.2 := hm
    obtain ⟨rfl, hstep⟩ := am_step1 (Qw := Qw) hf Z (by omega) (by omega)
    refine hstep (fun H1 locs1 lsC1 ad1 L1 cells1 slots1 e1 e2 hxt hWl hLc hok => ?_)
    refine ih n (Nat.le_refl _) mid' pc' ls' st' M1 d v M' hrun p e R s m args below meth c Qw H1 locs1 lsC1 cells1 slots1 ad1 L1 ⟨hC, hSc, ⟨hR.1, hR.2.1, hR.2.2.1, by omega, by omega⟩, hWl, hLc, hok⟩ hfr hlo (by omega) (by omega) ?_
    intro pc2 H2 locs2 lsC2 cells2 slots2 ad2 L2 e3 e4 hxt2 hWl2 hrk
    exact hret pc2 H2 locs2 lsC2 cells2 slots2 ad2 L2 (by omega) (by omega) (am_xt_tr hxt hxt2) hWl2 hrk
  · rw [hf] at hrun
    obtain ⟨a, as, t, rfl, rfl, rfl, h0, ha, hdp, hhl, hoka, hokt, hRO⟩ := am_stepC hf Z
    cases d with
    | zero => cases hrun
    | succ d =>
      have hrun : am_run n (am_entry a as :: ([] ++ [(mid, pc + 3, ls, t)])) d M1 = some (v, M') := hrun
      obtain ⟨n1, n2, v1, M2, hn1, hn2, hr1, hr2⟩ := am_run_split n _ [] _ [] d M1 hrun
      obtain ⟨m1, m2⟩ := am_run_mn _ _ _ _ hr1
      obtain ⟨m3, m4⟩ := am_run_mn _ _ _ _ hr2
      obtain ⟨-, -, -, -, -, -, -, -, -, k10⟩ := am_mk_s h0 ha
      have hgo := hRO _ _ _ _ (by show d + 1 + 1 ≤ R.frames; exact hfr) (by show 8 + (am_mx a + 11) + 60 * (d + 1) ≤ R.locals; omega) (am_met (ad := ad) (L := L) (ih n1 hn1) h0 ha hdp hhl hr1) am_Pc_bl (fun U hU hWm => ⟨rfl, by rw [hU]; exact Nat.le_trans hR.1 hW.2.2.1.1, am_Sc_go hSc hR.1 hWm hW.2.2.1 hU, by rw [hU]; exact hW.1, hW.2.1, hW.2.2.2, hoka⟩) (by show cells + (M2.2.2.2.2.1 - M1.2.2.2.2.1) ≤ R.cells; omega) (by show slots + (M2.2.2.2.2.2 - M1.2.2.2.2.2) ≤ R.slots; omega)
      intro T hT9 X
      obtain ⟨v', st₀, t', T', Lc, g0, X', gL, ge1, ge2, gq, gst⟩ := hgo T hT9 X
      obtain ⟨ad1, L1, q1, q2, q3, q4, q5, q6, q7⟩ := gq
      have q1 : v' = v1.map (am_cv sa fm ad1) := by cases q1; rfl
      subst q1
      have hS2 : va_S (fun q => b0 ≤ q) s.heap T'.heap (locs ++ Lc) := by
        refine ⟨?_, fun q h1 h2 => ?_, fun z hz => ?_⟩
        · rw [ge1]; exact Nat.le_trans hW.2.2.1.1 (by rw [← g0]; exact q7.1)
        · have h3 : q < st₀.heap.size := by rw [g0]; exact Nat.lt_of_lt_of_le h1 hW.2.2.1.1
          rw [ge1, q7.2 q h3 h2, g0]
          exact hW.2.2.1.2.1 q h1 h2
        · rcases List.mem_append.mp hz with h | h
          · exact hW.2.2.1.2.2 z h
          · exact gL z h
      have hLc1 : am_Lc sa fm mid ls ad1 L1 lsC := ⟨am_lvm hL.1 (fun z hz => am_prs_xt q2 hL.2.2 hz), hL.2.1, fun w hw => am_okv_mono (fun q hq => (q2 q hq).1) (hL.2.2 w hw)⟩
      have hok1 : ∀ w ∈ v1.toList ++ t, am_okv L1 w := by
        intro w hw
        rcases List.mem_append.mp hw with h | h
        · exact q6 w (by simpa using h)
        · exact am_okv_mono (fun q hq => (q2 q hq).1) (hokt w h)
      have hWk : W p l e R s m args below meth c T'.heap (locs ++ Lc) (cells + (M2.2.2.2.2.1 - M1.2.2.2.2.1)) (slots + (M2.2.2.2.2.2 - M1.2.2.2.2.2)) Qw (F0 m (pc + 3) lsC ((v1.toList ++ t).map (am_cv sa fm ad1))) := by
        refine ih n2 (by omega) mid (pc + 3) ls (v1.toList ++ t) M2 (d + 1) v M' hr2 p e R s m args below meth c Qw T'.heap (locs ++ Lc) lsC _ _ ad1 L1 ⟨hC, hSc, ⟨hR.1, hR.2.1, hR.2.2.1, by omega, by omega⟩, ⟨by rw [ge1]; exact q3, q4, hS2, q5⟩, hLc1, hok1⟩ hfr hlo (by omega) (by omega) ?_
        intro pc2 H2 locs2 lsC2 cells2 slots2 ad2 L2 e3 e4 hxt2 hWl2 hrk
        exact hret pc2 H2 locs2 lsC2 cells2 slots2 ad2 L2 (by omega) (by omega) (am_xt_tr q2 hxt2) hWl2 hrk
      have hfr9 : (v1.toList ++ t).map (am_cv sa fm ad1) = (v1.map (am_cv sa fm ad1)).toList ++ t.map (am_cv sa fm ad) := by
        rw [List.map_append, am_map_xt q2 hokt]
        cases v1 <;> rfl
      rw [hfr9] at hWk
      obtain ⟨t2, a1, b1⟩ := hWk T' rfl X'
      exact ⟨t2, gst t2 a1, b1⟩
  · rw [hf] at hrun hm
    cases hrun
    obtain ⟨rfl, hrk, rfl⟩ := am_stepR hf hT
    exact hret pc H locs lsC cells slots ad L rfl rfl am_xt_rf hW hrk
theorem am_sound {D : va_G} {cs : Nat → ClassId} {sa : Nat → Nat → Nat} {fm : Option Nat} {b0 : Nat} {xs : Nat → Int32} {Ls : Nat} {l : Launch} : ∀ n, am_Pn D cs sa fm b0 xs Ls l n := by
  intro n
  induction n using Nat.strongRecOn with
  | _ n ih =>
    cases n with
    | zero => intro mid pc ls st M d v M' h; cases h
    | succ n => exact am_sound_st (fun k hk => ih k (by omega))
