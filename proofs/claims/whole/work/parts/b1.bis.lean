/-! a run doesn't ask for places of rows of references beyond their lengths -/
def Ag (M : am_M) (P : Nat → Nat → Nat → Option (Nat × Nat)) : Prop := ∀ g k j, (g < 80 ∨ 84 ≤ g ∨ j < M.2.2.2.1 g k) → P g k j = M.2.1 g k j
def rR (M : am_M) (P : Nat → Nat → Nat → Option (Nat × Nat)) : am_M := (M.1, P, M.2.2)
theorem Ag_sI {M P g k j v} (h : Ag M P) : Ag (am_sI M g k j v) P := h
theorem Ag_sA {M P g k f} (h : Ag M P) : Ag (am_sA M g k f) P := h
theorem Ag_sR {M P g k j v} (h : Ag M P) : Ag (am_sR M g k j v) (fun g' k' j' => cond (Nat.beq g' g) (if k' = k ∧ j' = j then v else P g' k' j') (P g' k' j')) := fun g' k' j' h' => by
  show cond _ _ _ = cond _ _ _
  have e : P g' k' j' = M.2.1 g' k' j' := h g' k' j' h'
  rw [e]
theorem Ag_new {M P g n sl} (h : Ag M P) : Ag (am_new M g n sl) (fun g' k' j' => cond (Nat.beq g' g) (if k' = M.2.2.1 g then none else P g' k' j') (P g' k' j')) := fun g' k' j' h' => by
  have h' : g' < 80 ∨ 84 ≤ g' ∨ j' < cond (Nat.beq g' g) (if k' = M.2.2.1 g then n else M.2.2.2.1 g' k') (M.2.2.2.1 g' k') := h'
  show cond (Nat.beq g' g) (if k' = M.2.2.1 g then none else P g' k' j') (P g' k' j') = cond (Nat.beq g' g) (if k' = M.2.2.1 g then none else M.2.1 g' k' j') (M.2.1 g' k' j')
  cases q : Nat.beq g' g with
  | false =>
    rw [q] at h'
    exact h g' k' j' h'
  | true =>
    rw [q] at h'
    show (if k' = M.2.2.1 g then none else P g' k' j') = (if k' = M.2.2.1 g then none else M.2.1 g' k' j')
    by_cases e : k' = M.2.2.1 g
    · rw [if_pos e, if_pos e]
    · rw [if_neg e, if_neg e]
      have h' : g' < 80 ∨ 84 ≤ g' ∨ j' < (if k' = M.2.2.1 g then n else M.2.2.2.1 g' k') := h'
      rw [if_neg e] at h'
      exact h g' k' j' h'
theorem m_cnd {c : Bool} {a b a' b' : Prop} (h1 : a → a') (h2 : b → b') : cond c a b → cond c a' b' := by cases c; exact h2; exact h1
theorem m_ite {c : Prop} {i : Decidable c} {a b a' b' : Prop} (h1 : a → a') (h2 : b → b') : @ite Prop c i a b → @ite Prop c i a' b' := by split; exact h1; exact h2
theorem m_i1 {st : List am_V} {k k' : Int32 → List am_V → Prop} (h : ∀ x t, k x t → k' x t) : am_i1 False st k → am_i1 False st k' := by unfold am_i1; split; exact h _ _; exact id
theorem m_i2 {st : List am_V} {k k' : Int32 → Int32 → List am_V → Prop} (h : ∀ x y t, k x y t → k' x y t) : am_i2 False st k → am_i2 False st k' := by unfold am_i2; split; exact h _ _ _; exact id
theorem m_l2 {st : List am_V} {k k' : Int64 → Int64 → List am_V → Prop} (h : ∀ x y t, k x y t → k' x y t) : am_l2 False st k → am_l2 False st k' := by unfold am_l2; split; exact h _ _ _; exact id
theorem m_q1 {st : List am_V} {k k' : Option (Nat × Nat) → List am_V → Prop} (h : ∀ x t, k x t → k' x t) : am_q1 False st k → am_q1 False st k' := by unfold am_q1; split; exact h _ _; exact id
theorem m_r1 {st : List am_V} {k k' : Nat → Nat → List am_V → Prop} (h : ∀ x y t, k x y t → k' x y t) : am_r1 False st k → am_r1 False st k' := by unfold am_r1; split; exact h _ _ _; exact id
theorem m_iv {v : Option am_V} {k k' : Int32 → Prop} (h : ∀ x, k x → k' x) : am_iv False v k → am_iv False v k' := by unfold am_iv; split; exact h _; exact id
theorem m_lv {v : Option am_V} {k k' : Int64 → Prop} (h : ∀ x, k x → k' x) : am_lv False v k → am_lv False v k' := by unfold am_lv; split; exact h _; exact id
theorem m_qv {v : Option am_V} {k k' : Option (Nat × Nat) → Prop} (h : ∀ x, k x → k' x) : am_qv False v k → am_qv False v k' := by unfold am_qv; split; exact h _; exact id
theorem m_op {v : Option (List am_V × List am_V)} {k k' : List am_V → List am_V → Prop} (h : ∀ x t, k x t → k' x t) : am_op False v k → am_op False v k' := by unfold am_op; split; exact h _ _; exact id
theorem m_nl {r : Option (Nat × Nat)} {a b a' b' : Prop} (h1 : a → a') (h2 : b → b') : am_nl False r a b → am_nl False r a' b' := by unfold am_nl; split; exact h1; exact m_cnd h2 id
theorem m_al {r : Option (Nat × Nat)} {a a' : Prop} (h1 : a → a') : am_al False r a → am_al False r a' := by unfold am_al; split; exact h1; exact m_cnd h1 id
theorem m_nil {st : List am_V} {a a' : Prop} (h1 : a → a') : am_nil False st a → am_nil False st a' := by unfold am_nil; split; exact h1; exact id
theorem m_sw {x : Int32} {d : Nat} {k k' : Nat → Prop} (h : ∀ t, k t → k' t) : ∀ {l : List (Int32 × Nat)}, am_sw x d k l → am_sw x d k' l
  | [] => h _
  | (v, t) :: r => by
    unfold am_sw
    exact m_ite (h _) (m_sw h)
theorem m_ifc {c : ClassFile.Cond} {x : Int32} {a b a' b' : Prop} (h1 : a → a') (h2 : b → b') : am_ifc c x a b → am_ifc c x a' b' := by
  cases c
  · exact m_ite h1 h2
  · exact m_ite h2 h1
  all_goals exact m_ite h1 h2
theorem m_icm {c : ClassFile.Cond} {x y : Int32} {a b a' b' : Prop} (h1 : a → a') (h2 : b → b') : am_icm c x y a b → am_icm c x y a' b' := by
  cases c
  · exact m_ite h1 h2
  · exact m_ite h2 h1
  all_goals exact m_ite h1 h2
theorem m_irt {R R' : Option am_V → am_M → Prop} {mid : Nat} {st : List am_V} {M : am_M} {P} (hR : ∀ v M P, Ag M P → R v M → R' v (rR M P)) (hA : Ag M P) : am_irt False R mid st M → am_irt False R' mid st (rR M P) := by
  unfold am_irt
  refine m_i1 (fun x t => m_nil ?_)
  split
  · exact hR _ _ _ hA
  · exact m_ite (hR _ _ _ hA) id
  · exact m_ite (hR _ _ _ hA) id
  · exact m_ite (hR _ _ _ hA) id
  · exact id
theorem m_gst {C C' : am_F → am_M → Prop} {mid nx a : Nat} {ls st} {M : am_M} {P} (hC : ∀ f M P, Ag M P → C f M → C' f (rR M P)) (hA : Ag M P) : am_gst False C mid nx ls st M a → am_gst False C' mid nx ls st (rR M P) a := by
  unfold am_gst
  split
  · exact hC _ _ _ hA
  · exact hC _ _ _ hA
  · exact hC _ _ _ hA
  · exact hC _ _ _ hA
  · exact id
theorem m_put {C C' : am_F → am_M → Prop} {mid nx a b c : Nat} {ls st} {M : am_M} {P} (hC : ∀ f M P, Ag M P → C f M → C' f (rR M P)) (hA : Ag M P) : am_put False C mid nx ls st M a b c → am_put False C' mid nx ls st (rR M P) a b c := by
  unfold am_put
  split
  · exact m_i1 (fun x t => m_r1 (fun g q t => m_cnd (hC _ (am_sI M c q a x) P (Ag_sI hA)) id))
  · exact m_q1 (fun r t => m_r1 (fun g q t => m_cnd (m_nl (hC _ (am_sR M c q a r) _ (Ag_sR hA)) (hC _ (am_sR M c q a r) _ (Ag_sR hA))) id))
  · exact m_i1 (fun x t => m_r1 (fun g q t => m_cnd (m_ite (hC _ (am_sI M c q a x) P (Ag_sI hA)) id) id))
  · exact id
theorem m_cl1 {K K' : am_F → am_F → am_M → Prop} {mid nx a : Nat} {ls st} {M : am_M} {P} (hK : ∀ e f M P, Ag M P → K e f M → K' e f (rR M P)) (hA : Ag M P) : am_cl1 False K mid nx ls st M a → am_cl1 False K' mid nx ls st (rR M P) a := by
  unfold am_cl1
  exact m_op (fun as t => m_cnd (m_cnd (hK _ _ _ _ hA) (m_r1 (fun g q t => m_cnd (hK _ _ _ _ hA) id))) id)
theorem m_inv {C C' : am_F → am_M → Prop} {K K' : am_F → am_F → am_M → Prop} {mid nx a b : Nat} {ls st} {M : am_M} {P} (hC : ∀ f M P, Ag M P → C f M → C' f (rR M P)) (hK : ∀ e f M P, Ag M P → K e f M → K' e f (rR M P)) (hA : Ag M P) : am_inv False C K mid nx ls st M a b → am_inv False C' K' mid nx ls st (rR M P) a b := by
  unfold am_inv
  split
  · exact m_cl1 hK hA
  · exact m_cl1 hK hA
  · exact m_i2 (fun _ _ _ => m_cnd (hC _ _ _ hA) id)
  · exact m_i2 (fun _ _ _ => m_cnd (hC _ _ _ hA) id)
  · exact m_i1 (fun _ _ => m_cnd (hC _ _ _ hA) id)
  · exact m_i2 (fun dp n t => m_r1 (fun gd od t => m_i1 (fun sp t => m_r1 (fun gs os t => m_cnd (m_ite (hC _ (am_sA M gd od (va_cpy (M.1 gs os) (M.1 gd od) sp.toNatClampNeg dp.toNatClampNeg n.toNatClampNeg)) P (Ag_sA hA)) id) id))))
  · exact m_r1 (fun _ _ _ => m_cnd (hC _ _ _ hA) id)
  · exact id
theorem m_aal {C C' : am_F → am_M → Prop} {mid nx : Nat} {ls st} {M : am_M} {P} (hC : ∀ f M P, Ag M P → C f M → C' f (rR M P)) (hA : Ag M P) : am_i1 False st (fun i t => am_r1 False t (fun g o t => cond (Nat.ble 80 g && Nat.ble g 83) (if i < 0 ∨ M.2.2.2.1 g o ≤ i.toNatClampNeg then False else C (mid, nx, ls, .inr (.inr (M.2.1 g o i.toNatClampNeg)) :: t) M) False)) → am_i1 False st (fun i t => am_r1 False t (fun g o t => cond (Nat.ble 80 g && Nat.ble g 83) (if i < 0 ∨ M.2.2.2.1 g o ≤ i.toNatClampNeg then False else C' (mid, nx, ls, .inr (.inr (P g o i.toNatClampNeg)) :: t) (rR M P)) False)) := by
  refine m_i1 (fun i t => m_r1 (fun g q t => m_cnd ?_ id))
  by_cases h : i < 0 ∨ M.2.2.2.1 g q ≤ i.toNatClampNeg
  · rw [if_pos h, if_pos h]; exact id
  · rw [if_neg h, if_neg h, hA g q i.toNatClampNeg (by omega)]
    exact hC _ _ _ hA
theorem m_gtf {C C' : am_F → am_M → Prop} {mid nx a b c : Nat} {ls st} {M : am_M} {P} (hc : c = 100 ∨ c ≤ 8) (hC : ∀ f M P, Ag M P → C f M → C' f (rR M P)) (hA : Ag M P) : am_gtf False C mid nx ls st M a b c → am_gtf False C' mid nx ls st (rR M P) a b c := by
  unfold am_gtf
  refine m_r1 (fun g q t => m_cnd ?_ id)
  rcases hc with rfl | hc
  · show cond (Nat.beq a 0) _ _ → cond (Nat.beq a 0) _ _
    exact m_cnd (hC _ _ _ hA) (hC _ _ _ hA)
  · refine m_cnd (m_cnd (hC _ _ _ hA) (hC _ _ _ hA)) (m_cnd ?_ (hC _ _ _ hA))
    show C (mid, nx, ls, .inr (.inr (M.2.1 c q a)) :: t) M → C' (mid, nx, ls, .inr (.inr (P c q a)) :: t) (rR M P)
    rw [hA c q a (by omega)]
    exact hC _ _ _ hA
theorem am_ins_m {C C' J J' : am_F → am_M → Prop} {K K' : am_F → am_F → am_M → Prop} {R R' : Option am_V → am_M → Prop} (hC : ∀ f M P, Ag M P → C f M → C' f (rR M P)) (hJ : ∀ f M P, Ag M P → J f M → J' f (rR M P)) (hK : ∀ e f M P, Ag M P → K e f M → K' e f (rR M P)) (hR : ∀ v M P, Ag M P → R v M → R' v (rR M P)) {mid pc : Nat} {ls st} {M : am_M} {P} (hA : Ag M P) {ins : Instr} {nx a b c w : Nat} {k : Int32} {sw : List (Int32 × Nat)} (hv : am_ckB mid pc (ins, nx, a, b, c, w, k, sw) = true) : am_ins False C J K R mid pc ls st M ins nx a b c k sw → am_ins False C' J' K' R' mid pc ls st (rR M P) ins nx a b c k sw := by
  cases ins
  case iconst => exact hC _ _ _ hA
  case bipush => exact hC _ _ _ hA
  case sipush => exact hC _ _ _ hA
  case ldc_w => exact hC _ _ _ hA
  case lconst => exact hC _ _ _ hA
  case ldc2_w => exact hC _ _ _ hA
  case aconst_null => exact hC _ _ _ hA
  case ldc => exact m_cnd (hC _ _ _ hA) (hC _ _ _ hA)
  case iload_n => exact m_iv (fun _ => hC _ _ _ hA)
  case iload => exact m_iv (fun _ => hC _ _ _ hA)
  case lload_n => exact m_lv (fun _ => hC _ _ _ hA)
  case lload => exact m_lv (fun _ => hC _ _ _ hA)
  case aload_n => exact m_qv (fun _ => hC _ _ _ hA)
  case aload => exact m_qv (fun _ => hC _ _ _ hA)
  case istore_n => exact m_cnd id (m_i1 (fun _ _ => hC _ _ _ hA))
  case istore => exact m_cnd id (m_i1 (fun _ _ => hC _ _ _ hA))
  case astore_n => exact m_cnd id (m_q1 (fun _ _ => m_al (hC _ _ _ hA)))
  case astore => exact m_cnd id (m_q1 (fun _ _ => m_al (hC _ _ _ hA)))
  case iinc => exact m_cnd id (m_iv (fun _ => hC _ _ _ hA))
  case iadd => exact m_i2 (fun _ _ _ => hC _ _ _ hA)
  case isub => exact m_i2 (fun _ _ _ => hC _ _ _ hA)
  case imul => exact m_i2 (fun _ _ _ => hC _ _ _ hA)
  case iand => exact m_i2 (fun _ _ _ => hC _ _ _ hA)
  case ior => exact m_i2 (fun _ _ _ => hC _ _ _ hA)
  case ishl => exact m_i2 (fun _ _ _ => hC _ _ _ hA)
  case ishr => exact m_i2 (fun _ _ _ => hC _ _ _ hA)
  case iushr => exact m_i2 (fun _ _ _ => hC _ _ _ hA)
  case idiv => exact m_i2 (fun _ _ _ => m_ite id (hC _ _ _ hA))
  case irem => exact m_i2 (fun _ _ _ => m_ite id (hC _ _ _ hA))
  case ineg => exact m_i1 (fun _ _ => hC _ _ _ hA)
  case i2s => exact m_i1 (fun _ _ => hC _ _ _ hA)
  case i2c => exact m_i1 (fun _ _ => hC _ _ _ hA)
  case i2b => exact m_i1 (fun _ _ => hC _ _ _ hA)
  case i2l => exact m_i1 (fun _ _ => hC _ _ _ hA)
  case pop => exact m_i1 (fun _ _ => hC _ _ _ hA)
  case ladd => exact m_l2 (fun _ _ _ => hC _ _ _ hA)
  case lcmp => exact m_l2 (fun _ _ _ => hC _ _ _ hA)
  case dup => exact m_r1 (fun _ _ _ => hC _ _ _ hA)
  case dup2 => exact m_i1 (fun _ _ => m_r1 (fun _ _ _ => hC _ _ _ hA))
  case goto => exact m_cnd (hJ _ _ _ hA) (hC _ _ _ hA)
  case ifCond => exact m_i1 (fun _ _ => m_ifc (m_cnd (hJ _ _ _ hA) (hC _ _ _ hA)) (hC _ _ _ hA))
  case if_icmp => exact m_i2 (fun _ _ _ => m_icm (m_cnd (hJ _ _ _ hA) (hC _ _ _ hA)) (hC _ _ _ hA))
  case ifnull => exact m_q1 (fun _ _ => m_nl (hC _ _ _ hA) (hC _ _ _ hA))
  case ifnonnull => exact m_q1 (fun _ _ => m_nl (hC _ _ _ hA) (hC _ _ _ hA))
  case tableswitch => exact m_i1 (fun _ _ => m_sw (fun _ => hC _ _ _ hA))
  case lookupswitch => exact m_i1 (fun _ _ => m_sw (fun _ => hC _ _ _ hA))
  case putfield => exact m_put hC hA
  case getstatic => exact m_gst hC hA
  case iaload => exact m_i1 (fun _ _ => m_r1 (fun _ _ _ => m_cnd (m_ite id (hC _ _ _ hA)) id))
  case baload => exact m_i1 (fun _ _ => m_r1 (fun _ _ _ => m_cnd (m_ite id (hC _ _ _ hA)) id))
  case iastore => exact m_i2 (fun i x t => m_r1 (fun g q t => m_cnd (m_ite id (hC _ (am_sI M g q i.toNatClampNeg x) P (Ag_sI hA))) id))
  case aastore => exact m_r1 (fun gr kr t => m_i1 (fun i t => m_r1 (fun g q t => m_cnd (m_ite id (hC _ (am_sR M g q i.toNatClampNeg (some (gr, kr))) _ (Ag_sR hA))) id)))
  case arraylength => exact m_r1 (fun _ _ _ => m_cnd (hC _ _ _ hA) id)
  case new => exact m_cnd (hC _ (am_new M a 0 (am_N a)) _ (Ag_new hA)) id
  case newarray => exact m_i1 (fun n t => m_cnd (m_ite id (hC _ (am_new M a n.toNatClampNeg n.toNatClampNeg) _ (Ag_new hA))) id)
  case anewarray => exact m_i1 (fun n t => m_cnd (m_ite id (hC _ (am_new M a n.toNatClampNeg n.toNatClampNeg) _ (Ag_new hA))) id)
  case invokevirtual => exact m_inv hC hK hA
  case invokestatic => exact m_inv hC hK hA
  case invokespecial => exact m_inv hC hK hA
  case ireturn => exact m_irt hR hA
  case areturn => exact m_q1 (fun _ _ => m_nil (m_cnd (hR _ _ _ hA) id))
  case return_ => exact m_nil (m_cnd (hR _ _ _ hA) id)
  case aaload => exact m_aal hC hA
  case getfield =>
    refine m_gtf ?_ hC hA
    simp only [am_ckB, am_ckX, am_ln, Bool.and_eq_true, Bool.or_eq_true, decide_eq_true_eq, Nat.beq_eq, Nat.ble_eq] at hv
    have hk := hv.2
    cases hb : Nat.beq c 100 with
    | true => exact Or.inl (Nat.eq_of_beq_eq_true hb)
    | false =>
      rw [hb] at hk
      simp only [cond_false, Bool.and_eq_true, Nat.ble_eq] at hk
      exact Or.inr hk.1.1.1
  all_goals exact id
theorem am_st_m {C C' J J' : am_F → am_M → Prop} {K K' : am_F → am_F → am_M → Prop} {R R' : Option am_V → am_M → Prop} (hC : ∀ f M P, Ag M P → C f M → C' f (rR M P)) (hJ : ∀ f M P, Ag M P → J f M → J' f (rR M P)) (hK : ∀ e f M P, Ag M P → K e f M → K' e f (rR M P)) (hR : ∀ v M P, Ag M P → R v M → R' v (rR M P)) {f : am_F} {M : am_M} {P} (hA : Ag M P) : am_st False C J K R f M → am_st False C' J' K' R' f (rR M P) := by
  obtain ⟨mid, pc, ls, st⟩ := f
  unfold am_st
  dsimp only
  cases hc : am_code mid pc with
  | none => exact id
  | some x =>
    obtain ⟨ins, nx, a, b, c, w, k, sw⟩ := x
    exact am_ins_m hC hJ hK hR hA (am_vd hc)
theorem bis {Q Q' : Option am_V → am_M → Prop} (hQ : ∀ v M P, Q v M → Q' v (rR M P)) : ∀ (n : Nat) (fs : List am_F) (d : Nat) (M : am_M) (P : Nat → Nat → Nat → Option (Nat × Nat)), Ag M P → (∃ v M', am_run n fs d M = some (v, M') ∧ Q v M') → am_WP fs d (rR M P) Q'
  | 0, fs, d, M, P, hA, h => by obtain ⟨v, M', h1, _⟩ := h; cases h1
  | n + 1, [], d, M, P, hA, h => by obtain ⟨v, M', h1, _⟩ := h; cases h1
  | n + 1, f :: fs, d, M, P, hA, h => by
    refine am_go 1 ?_
    have s1 : am_st False (fun f' M' => ∃ v M'', am_run n (f' :: fs) d M' = some (v, M'') ∧ Q v M'') (fun f' M' => ∃ v M'', am_run n (f' :: fs) d M' = some (v, M'') ∧ Q v M'') (fun e f' M' => match d with
        | 0 => False
        | d + 1 => ∃ v M'', am_run n (e :: f' :: fs) d M' = some (v, M'') ∧ Q v M'') (fun v M' => match fs with
        | [] => Q v M'
        | g :: gs => ∃ v' M'', am_run n (am_psh g v :: gs) (d + 1) M' = some (v', M'') ∧ Q v' M'') f M := by
      rw [am_st_el]
      obtain ⟨v, M', h1, h2⟩ := h
      rw [am_run] at h1
      rcases hf : am_fn f M with _ | ⟨⟨b, f', M1⟩ | ⟨e, f', M1⟩ | ⟨w, M1⟩⟩
      · rw [hf] at h1; cases h1
      · rw [hf] at h1
        cases b
        · exact ⟨v, M', h1, h2⟩
        · exact ⟨v, M', h1, h2⟩
      · rw [hf] at h1
        cases d with
        | zero => cases h1
        | succ d => exact ⟨v, M', h1, h2⟩
      · rw [hf] at h1
        cases fs with
        | nil => cases h1; exact h2
        | cons g gs => exact ⟨v, M', h1, h2⟩
    refine am_st_m (fun f' M' P' a b => ?_) (fun f' M' P' a b => ?_) (fun e f' M' P' a b => ?_) (fun v M' P' a b => ?_) hA s1
    · exact bis hQ n (f' :: fs) d M' P' a b
    · exact bis hQ n (f' :: fs) d M' P' a b
    · cases d with
      | zero => exact b
      | succ d => exact bis hQ n (e :: f' :: fs) d M' P' a b
    · cases fs with
      | nil => exact hQ _ _ _ b
      | cons g gs => exact bis hQ n (am_psh g v :: gs) (d + 1) M' P' a b
theorem WP_R {Q : Option am_V → am_M → Prop} (hQ : ∀ v M P, Q v M → Q v (rR M P)) {fs : List am_F} {d : Nat} {M : am_M} {P} (hA : Ag M P) (h : am_WP fs d M Q) : am_WP fs d (rR M P) Q := by
  obtain ⟨n, v, M', h1, h2⟩ := h
  exact bis hQ n fs d M P hA ⟨v, M', h1, h2⟩
