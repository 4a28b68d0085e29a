/-! CELLS AND SLOTS ONLY GROW; A RUN IS ITS CALLS' RUNS -/
section
theorem am_i1_a {z : Prop} {st : List am_V} {k : Int32 → List am_V → Prop} (h : z) (hk : ∀ x t, k x t) : am_i1 z st k := by unfold am_i1; split; exact hk _ _; exact h
theorem am_i2_a {z : Prop} {st : List am_V} {k : Int32 → Int32 → List am_V → Prop} (h : z) (hk : ∀ x y t, k x y t) : am_i2 z st k := by unfold am_i2; split; exact hk _ _ _; exact h
theorem am_l2_a {z : Prop} {st : List am_V} {k : Int64 → Int64 → List am_V → Prop} (h : z) (hk : ∀ x y t, k x y t) : am_l2 z st k := by unfold am_l2; split; exact hk _ _ _; exact h
theorem am_q1_a {z : Prop} {st : List am_V} {k : Option (Nat × Nat) → List am_V → Prop} (h : z) (hk : ∀ x t, k x t) : am_q1 z st k := by unfold am_q1; split; exact hk _ _; exact h
theorem am_r1_a {z : Prop} {st : List am_V} {k : Nat → Nat → List am_V → Prop} (h : z) (hk : ∀ x y t, k x y t) : am_r1 z st k := by unfold am_r1; split; exact hk _ _ _; exact h
theorem am_iv_a {z : Prop} {v : Option am_V} {k : Int32 → Prop} (h : z) (hk : ∀ x, k x) : am_iv z v k := by unfold am_iv; split; exact hk _; exact h
theorem am_lv_a {z : Prop} {v : Option am_V} {k : Int64 → Prop} (h : z) (hk : ∀ x, k x) : am_lv z v k := by unfold am_lv; split; exact hk _; exact h
theorem am_qv_a {z : Prop} {v : Option am_V} {k : Option (Nat × Nat) → Prop} (h : z) (hk : ∀ x, k x) : am_qv z v k := by unfold am_qv; split; exact hk _; exact h
theorem am_op_a {z : Prop} {v : Option (List am_V × List am_V)} {k : List am_V → List am_V → Prop} (h : z) (hk : ∀ a t, k a t) : am_op z v k := by unfold am_op; split; exact hk _ _; exact h
theorem am_cnd_a {b : Bool} {x y : Prop} (hx : x) (hy : y) : cond b x y := by cases b; exact hy; exact hx
theorem am_ite_a {c : Prop} [Decidable c] {x y : Prop} (hx : x) (hy : y) : if c then x else y := by split; exact hx; exact hy
theorem am_nl_a {z : Prop} {r : Option (Nat × Nat)} {x y : Prop} (h : z) (hx : x) (hy : y) : am_nl z r x y := by unfold am_nl; split; exact hx; exact am_cnd_a hy h
theorem am_al_a {z : Prop} {r : Option (Nat × Nat)} {x : Prop} (h : z) (hx : x) : am_al z r x := by unfold am_al; split; exact hx; exact am_cnd_a hx h
theorem am_nil_a {z : Prop} {st : List am_V} {k : Prop} (h : z) (hk : k) : am_nil z st k := by unfold am_nil; split; exact hk; exact h
theorem am_sw_a {x : Int32} {d : Nat} {k : Nat → Prop} (hk : ∀ t, k t) : ∀ (l : List (Int32 × Nat)), am_sw x d k l
  | [] => hk d
  | (_, t) :: r => am_ite_a (hk t) (am_sw_a hk r)
theorem am_ifc_a {c : ClassFile.Cond} {x : Int32} {a b : Prop} (ha : a) (hb : b) : am_ifc c x a b := by cases c <;> exact am_ite_a (by assumption) (by assumption)
theorem am_icm_a {c : ClassFile.Cond} {x y : Int32} {a b : Prop} (ha : a) (hb : b) : am_icm c x y a b := by cases c <;> exact am_ite_a (by assumption) (by assumption)
variable {z : Prop} {cont jmp : am_F → am_M → Prop} {call : am_F → am_F → am_M → Prop} {ret : Option am_V → am_M → Prop} {mid pc nx a b c : Nat} {ls : List (Option am_V)} {st : List am_V} {M : am_M} {k : Int32} {sw : List (Int32 × Nat)}
theorem am_cl1_a (h : z) (hk : ∀ e f, call e f M) : am_cl1 z call mid nx ls st M a := am_op_a h (fun _ _ => am_cnd_a (am_cnd_a (hk _ _) (am_r1_a h (fun _ _ _ => am_cnd_a (hk _ _) h))) h)
theorem am_inv_a (h : z) (hc : ∀ f M', M'.2.2.2.2 = M.2.2.2.2 → cont f M') (hk : ∀ e f, call e f M) : am_inv z cont call mid nx ls st M a b := by
  unfold am_inv
  split
  · exact am_cl1_a h hk
  · exact am_cl1_a h hk
  · exact am_i2_a h (fun _ _ _ => am_cnd_a (hc _ _ rfl) h)
  · exact am_i2_a h (fun _ _ _ => am_cnd_a (hc _ _ rfl) h)
  · exact am_i1_a h (fun _ _ => am_cnd_a (hc _ _ rfl) h)
  · exact am_i2_a h (fun _ _ _ => am_r1_a h (fun _ _ _ => am_i1_a h (fun _ _ => am_r1_a h (fun _ _ _ => am_cnd_a (am_ite_a (hc _ _ rfl) h) h))))
  · exact am_r1_a h (fun _ _ _ => am_cnd_a (hc _ _ rfl) h)
  · exact h
theorem am_gst_a (h : z) (hc : ∀ f, cont f M) : am_gst z cont mid nx ls st M a := by
  unfold am_gst
  split
  · exact hc _
  · exact hc _
  · exact hc _
  · exact hc _
  · exact h
theorem am_put_a (h : z) (hc : ∀ f M', M'.2.2.2.2 = M.2.2.2.2 → cont f M') : am_put z cont mid nx ls st M a b c := by
  unfold am_put
  split
  · exact am_i1_a h (fun _ _ => am_r1_a h (fun _ _ _ => am_cnd_a (hc _ _ rfl) h))
  · exact am_q1_a h (fun _ _ => am_r1_a h (fun _ _ _ => am_cnd_a (am_nl_a h (hc _ _ rfl) (hc _ _ rfl)) h))
  · exact am_i1_a h (fun _ _ => am_r1_a h (fun _ _ _ => am_cnd_a (am_ite_a (hc _ _ rfl) h) h))
  · exact h
theorem am_irt_a (h : z) (hr : ∀ v, ret v M) : am_irt z ret mid st M := am_i1_a h (fun _ _ => am_nil_a h (by
  split
  · exact hr _
  · exact am_ite_a (hr _) h
  · exact am_ite_a (hr _) h
  · exact am_ite_a (hr _) h
  · exact h))
set_option maxHeartbeats 4000000 in
theorem am_ins_a {ins : Instr} (h : z) (hc : ∀ f M', M.2.2.2.2.1 ≤ M'.2.2.2.2.1 → M.2.2.2.2.2 ≤ M'.2.2.2.2.2 → cont f M') (hj : ∀ f, jmp f M) (hk : ∀ e f, call e f M) (hr : ∀ v, ret v M) : am_ins z cont jmp call ret mid pc ls st M ins nx a b c k sw := by
  have hc0 : ∀ f M', M'.2.2.2.2 = M.2.2.2.2 → cont f M' := fun f M' e => hc f M' (by rw [e]; exact Nat.le_refl _) (by rw [e]; exact Nat.le_refl _)
  have hc1 : ∀ f, cont f M := fun f => hc0 f M rfl
  cases ins
  case iconst => exact hc1 _
  case bipush => exact hc1 _
  case sipush => exact hc1 _
  case ldc => exact am_cnd_a (hc1 _) (hc1 _)
  case ldc_w => exact hc1 _
  case lconst => exact hc1 _
  case ldc2_w => exact hc1 _
  case aconst_null => exact hc1 _
  case iload_n => exact am_iv_a h (fun _ => hc1 _)
  case iload => exact am_iv_a h (fun _ => hc1 _)
  case lload_n => exact am_lv_a h (fun _ => hc1 _)
  case lload => exact am_lv_a h (fun _ => hc1 _)
  case aload_n => exact am_qv_a h (fun _ => hc1 _)
  case aload => exact am_qv_a h (fun _ => hc1 _)
  case istore_n => exact am_cnd_a h (am_i1_a h (fun _ _ => hc1 _))
  case istore => exact am_cnd_a h (am_i1_a h (fun _ _ => hc1 _))
  case astore_n => exact am_cnd_a h (am_q1_a h (fun _ _ => am_al_a h (hc1 _)))
  case astore => exact am_cnd_a h (am_q1_a h (fun _ _ => am_al_a h (hc1 _)))
  case iinc => exact am_cnd_a h (am_iv_a h (fun _ => hc1 _))
  case idiv => exact am_i2_a h (fun _ _ _ => am_ite_a h (hc1 _))
  case irem => exact am_i2_a h (fun _ _ _ => am_ite_a h (hc1 _))
  case dup => exact am_r1_a h (fun _ _ _ => hc1 _)
  case dup2 => exact am_i1_a h (fun _ _ => am_r1_a h (fun _ _ _ => hc1 _))
  case goto => exact am_cnd_a (hj _) (hc1 _)
  case ifCond => exact am_i1_a h (fun _ _ => am_ifc_a (am_cnd_a (hj _) (hc1 _)) (hc1 _))
  case if_icmp => exact am_i2_a h (fun _ _ _ => am_icm_a (am_cnd_a (hj _) (hc1 _)) (hc1 _))
  case ifnull => exact am_q1_a h (fun _ _ => am_nl_a h (hc1 _) (hc1 _))
  case ifnonnull => exact am_q1_a h (fun _ _ => am_nl_a h (hc1 _) (hc1 _))
  case tableswitch => exact am_i1_a h (fun _ _ => am_sw_a (fun _ => hc1 _) _)
  case lookupswitch => exact am_i1_a h (fun _ _ => am_sw_a (fun _ => hc1 _) _)
  case getfield => exact am_r1_a h (fun _ _ _ => am_cnd_a (am_cnd_a (am_cnd_a (hc1 _) (hc1 _)) (am_cnd_a (hc1 _) (hc1 _))) h)
  case putfield => exact am_put_a h hc0
  case getstatic => exact am_gst_a h hc1
  case iaload => exact am_i1_a h (fun _ _ => am_r1_a h (fun _ _ _ => am_cnd_a (am_ite_a h (hc1 _)) h))
  case baload => exact am_i1_a h (fun _ _ => am_r1_a h (fun _ _ _ => am_cnd_a (am_ite_a h (hc1 _)) h))
  case iastore => exact am_i2_a h (fun _ _ _ => am_r1_a h (fun _ _ _ => am_cnd_a (am_ite_a h (hc0 _ _ rfl)) h))
  case aaload => exact am_i1_a h (fun _ _ => am_r1_a h (fun _ _ _ => am_cnd_a (am_ite_a h (hc1 _)) h))
  case aastore => exact am_r1_a h (fun _ _ _ => am_i1_a h (fun _ _ => am_r1_a h (fun _ _ _ => am_cnd_a (am_ite_a h (hc0 _ _ rfl)) h)))
  case arraylength => exact am_r1_a h (fun _ _ _ => am_cnd_a (hc1 _) h)
  case new => exact am_cnd_a (hc _ _ (Nat.le_succ _) (Nat.le_add_right _ _)) h
  case newarray => exact am_i1_a h (fun _ _ => am_cnd_a (am_ite_a h (hc _ _ (Nat.le_succ _) (Nat.le_add_right _ _))) h)
  case anewarray => exact am_i1_a h (fun _ _ => am_cnd_a (am_ite_a h (hc _ _ (Nat.le_succ _) (Nat.le_add_right _ _))) h)
  case invokevirtual => exact am_inv_a h hc0 hk
  case invokestatic => exact am_inv_a h hc0 hk
  case invokespecial => exact am_inv_a h hc0 hk
  case ireturn => exact am_irt_a h hr
  case areturn => exact am_q1_a h (fun _ _ => am_nil_a h (am_cnd_a (hr _) h))
  case return_ => exact am_nil_a h (am_cnd_a (hr _) h)
  all_goals first | exact h | exact am_i2_a h (fun _ _ _ => hc1 _) | exact am_i1_a h (fun _ _ => hc1 _) | exact am_l2_a h (fun _ _ _ => hc1 _)
end
def am_mnP (M : am_M) : Option am_Y → Prop
  | none => True
  | some (.inl (_, _, M')) => M.2.2.2.2.1 ≤ M'.2.2.2.2.1 ∧ M.2.2.2.2.2 ≤ M'.2.2.2.2.2
  | some (.inr (.inl (_, _, M'))) => M' = M
  | some (.inr (.inr (_, M'))) => M' = M
theorem am_fn_mn (f : am_F) (M : am_M) : am_mnP M (am_fn f M) := by
  obtain ⟨mid, pc, ls, st⟩ := f
  unfold am_fn am_st
  dsimp only
  split
  · trivial
  · rw [am_ins_n (am_mnP M)]
    exact am_ins_a trivial (fun _ _ h1 h2 => ⟨h1, h2⟩) (fun _ => ⟨Nat.le_refl _, Nat.le_refl _⟩) (fun _ _ => rfl) (fun _ => rfl)
theorem am_run_mn : ∀ (n : Nat) (fs : List am_F) (d : Nat) (M : am_M) {v : Option am_V} {M' : am_M}, am_run n fs d M = some (v, M') → M.2.2.2.2.1 ≤ M'.2.2.2.2.1 ∧ M.2.2.2.2.2 ≤ M'.2.2.2.2.2
  | 0, _, _, _, _, _, h => by cases h
  | _ + 1, [], _, _, _, _, h => by cases h
  | n + 1, f :: fs, d, M, v, M', h => by
    have hm := am_fn_mn f M
    rw [am_run] at h
    rcases hf : am_fn f M with _ | ⟨⟨b, f', M1⟩ | ⟨e, f', M1⟩ | ⟨w, M1⟩⟩
    · rw [hf] at h; cases h
    · rw [hf] at h hm
      have := am_run_mn n _ _ _ h
      exact ⟨Nat.le_trans hm.1 this.1, Nat.le_trans hm.2 this.2⟩
    · rw [hf] at h hm
      have hm : M1 = M := hm
      subst hm
      cases d with
      | zero => cases h
      | succ d => exact am_run_mn n _ _ _ (show am_run n (e :: f' :: fs) d M1 = _ from h)
    · rw [hf] at h hm
      have hm : M1 = M := hm
      subst hm
      cases fs with
      | nil => cases h; exact ⟨Nat.le_refl _, Nat.le_refl _⟩
      | cons g gs => exact am_run_mn n _ _ _ (show am_run n (am_psh g w :: gs) (d + 1) M1 = _ from h)
theorem am_run_split : ∀ (n : Nat) (f : am_F) (fs : List am_F) (g : am_F) (gs : List am_F) (d : Nat) (M : am_M) {v : Option am_V} {M' : am_M}, am_run n (f :: (fs ++ g :: gs)) d M = some (v, M') →
    ∃ (n1 n2 : Nat) (v1 : Option am_V) (M1 : am_M), n1 ≤ n ∧ n2 < n ∧ am_run n1 (f :: fs) d M = some (v1, M1) ∧ am_run n2 (am_psh g v1 :: gs) (d + (fs.length + 1)) M1 = some (v, M')
  | 0, _, _, _, _, _, _, _, _, h => by cases h
  | n + 1, f, fs, g, gs, d, M, v, M', h => by
    rw [am_run] at h
    rcases hf : am_fn f M with _ | ⟨⟨b, f', M1⟩ | ⟨e, f', M1⟩ | ⟨w, M1⟩⟩
    · rw [hf] at h; cases h
    · rw [hf] at h
      obtain ⟨n1, n2, v1, M2, h1, h2, h3, h4⟩ := am_run_split n f' fs g gs d M1 h
      exact ⟨n1 + 1, n2, v1, M2, by omega, by omega, by rw [am_run, hf]; exact h3, h4⟩
    · rw [hf] at h
      cases d with
      | zero => cases h
      | succ d =>
        obtain ⟨n1, n2, v1, M2, h1, h2, h3, h4⟩ := am_run_split n e (f' :: fs) g gs d M1 h
        refine ⟨n1 + 1, n2, v1, M2, by omega, by omega, by rw [am_run, hf]; exact h3, ?_⟩
        rw [show d + 1 + (fs.length + 1) = d + ((f' :: fs).length + 1) by simp only [List.length_cons]; omega]
        exact h4
    · rw [hf] at h
      cases fs with
      | nil => exact ⟨1, n, w, M1, by omega, by omega, by rw [am_run, hf], h⟩
      | cons g2 gs2 =>
        obtain ⟨n1, n2, v1, M2, h1, h2, h3, h4⟩ := am_run_split n (am_psh g2 w) gs2 g gs (d + 1) M1 h
        refine ⟨n1 + 1, n2, v1, M2, by omega, by omega, by rw [am_run, hf]; exact h3, ?_⟩
        rw [show d + ((g2 :: gs2).length + 1) = d + 1 + (gs2.length + 1) by simp only [List.length_cons]; omega]
        exact h4
/-! ENTRY -/
theorem am_pop_s : ∀ {n : Nat} {st acc as t : List am_V}, am_pop n st acc = some (as, t) → ∃ ys : List am_V, ys.length = n ∧ st = ys ++ t ∧ as = ys.reverse ++ acc
  | 0, st, acc, as, t, h => by cases h; exact ⟨[], rfl, rfl, rfl⟩
  | n + 1, [], acc, as, t, h => by cases h
  | n + 1, v :: st, acc, as, t, h => by
    obtain ⟨ys, h1, h2, h3⟩ := am_pop_s (n := n) (st := st) (acc := v :: acc) h
    exact ⟨v :: ys, by simp [h1], by simp [h2], by simp [h3]⟩
theorem am_pad_mem : ∀ {n : Nat} {l : List (Option am_V)} {v : am_V}, some v ∈ am_pad n l → some v ∈ l
  | 0, _, _, h => by cases h
  | n + 1, [], v, h => by
    rcases List.mem_cons.mp (show some v ∈ none :: am_pad n [] from h) with h | h
    · cases h
    · exact am_pad_mem h
  | n + 1, x :: l, v, h => by
    rcases List.mem_cons.mp (show some v ∈ x :: am_pad n l from h) with h | h
    · rw [h]; exact List.mem_cons_self
    · exact List.mem_cons_of_mem _ (am_pad_mem h)
theorem am_lay_mem : ∀ {as : List am_V} {v : am_V}, some v ∈ am_lay as → v ∈ as
  | [], _, h => by cases h
  | .inl x :: l, v, h => by
    rcases List.mem_cons.mp (show some v ∈ some (.inl x) :: am_lay l from h) with h | h
    · rw [Option.some.inj h]; exact List.mem_cons_self
    · exact List.mem_cons_of_mem _ (am_lay_mem h)
  | .inr (.inl x) :: l, v, h => by
    rcases List.mem_cons.mp (show some v ∈ some (.inr (.inl x)) :: none :: am_lay l from h) with h | h
    · rw [Option.some.inj h]; exact List.mem_cons_self
    · rcases List.mem_cons.mp h with h | h
      · cases h
      · exact List.mem_cons_of_mem _ (am_lay_mem h)
  | .inr (.inr x) :: l, v, h => by
    rcases List.mem_cons.mp (show some v ∈ some (.inr (.inr x)) :: am_lay l from h) with h | h
    · rw [Option.some.inj h]; exact List.mem_cons_self
    · exact List.mem_cons_of_mem _ (am_lay_mem h)
theorem am_dep_ge : ∀ (as : List am_V), as.length ≤ am_dep as
  | [] => Nat.le_refl _
  | v :: l => by
    have := am_dep_ge l
    have h1 : 1 ≤ am_cat v := by rcases v with x | x | x <;> simp [am_cat]
    simp only [List.length_cons, am_dep]
    omega
theorem am_dep_one : ∀ {as : List am_V}, am_dep as = as.length → ∀ x, (.inr (.inl x) : am_V) ∉ as
  | [], _, x, h => by cases h
  | v :: l, h, x, hx => by
    have := am_dep_ge l
    simp only [List.length_cons, am_dep] at h
    rcases List.mem_cons.mp hx with h1 | h1
    · rw [← h1] at h
      simp only [am_cat] at h
      omega
    · have h2 : 1 ≤ am_cat v := by rcases v with x | x | x <;> simp [am_cat]
      exact am_dep_one (as := l) (by omega) x h1
theorem am_args_in {f : am_V → Value} (hf : ∀ v, (f v).category = am_cat v) : ∀ {as : List am_V} {n i : Nat} {q : Nat × Value}, q ∈ am_prs f i (am_pad n (am_lay as)) → q ∈ lv_args i (as.map f)
  | as, 0, i, q, h => by cases h
  | [], n + 1, i, q, h => by
    obtain ⟨-, v, h1, -⟩ := am_prs_ge h
    cases am_pad_mem h1
  | .inl x :: l, n + 1, i, q, h => by
    have e : lv_args i ((.inl x :: l : List am_V).map f) = (i, f (.inl x)) :: lv_args (i + 1) (l.map f) := by
      show (i, f (.inl x)) :: lv_args (if (f (.inl x)).category = 2 then i + 2 else i + 1) (l.map f) = _
      rw [hf]; rfl
    rw [e]
    rcases List.mem_cons.mp (show q ∈ (i, f (.inl x)) :: am_prs f (i + 1) (am_pad n (am_lay l)) from h) with h | h
    · rw [h]; exact List.mem_cons_self
    · exact List.mem_cons_of_mem _ (am_args_in hf h)
  | .inr (.inr x) :: l, n + 1, i, q, h => by
    have e : lv_args i ((.inr (.inr x) :: l : List am_V).map f) = (i, f (.inr (.inr x))) :: lv_args (i + 1) (l.map f) := by
      show (i, f (.inr (.inr x))) :: lv_args (if (f (.inr (.inr x))).category = 2 then i + 2 else i + 1) (l.map f) = _
      rw [hf]; rfl
    rw [e]
    rcases List.mem_cons.mp (show q ∈ (i, f (.inr (.inr x))) :: am_prs f (i + 1) (am_pad n (am_lay l)) from h) with h | h
    · rw [h]; exact List.mem_cons_self
    · exact List.mem_cons_of_mem _ (am_args_in hf h)
  | .inr (.inl x) :: l, 1, i, q, h => by
    rcases List.mem_cons.mp (show q ∈ [(i, f (.inr (.inl x)))] from h) with h | h
    · rw [h]; exact List.mem_cons_self
    · cases h
  | .inr (.inl x) :: l, n + 2, i, q, h => by
    have e : lv_args i ((.inr (.inl x) :: l : List am_V).map f) = (i, f (.inr (.inl x))) :: lv_args (i + 2) (l.map f) := by
      show (i, f (.inr (.inl x))) :: lv_args (if (f (.inr (.inl x))).category = 2 then i + 2 else i + 1) (l.map f) = _
      rw [hf]; rfl
    rw [e]
    rcases List.mem_cons.mp (show q ∈ (i, f (.inr (.inl x))) :: am_prs f (i + 1 + 1) (am_pad n (am_lay l)) from h) with h | h
    · rw [h]; exact List.mem_cons_self
    · exact List.mem_cons_of_mem _ (am_args_in hf h)
theorem am_sl_len {f : am_V → Value} (hf : ∀ v, (f v).category = am_cat v) : ∀ (as : List am_V), (lg_sl (as.map f)).length = am_dep as
  | [] => rfl
  | v :: l => by
    have h1 := am_sl_len hf l
    have h2 : lg_sl ((v :: l).map f) = (if (f v).category = 2 then [Slot.val (f v), .second] else [.val (f v)]) ++ lg_sl (l.map f) := rfl
    rw [h2, List.length_append, h1, hf]
    rcases v with x | x | x
    · show 1 + am_dep l = 1 + am_dep l; rfl
    · show 2 + am_dep l = 2 + am_dep l; rfl
    · show 1 + am_dep l = 1 + am_dep l; rfl
/-! A CALL -/
def am_wsd (a : Nat) : List Cond := Cond.code (am_y a) (am_by a) (am_mx a) (am_rt a) :: am_gw
theorem am_wsd_code {a : Nat} (h0 : 0 < a) (h : a < am_nm) : Cond.code (am_y a) (am_by a) (am_mx a) (am_rt a) ∈ am_gw := am_gw_at (am_cw_all a h0 h) rfl
theorem am_wsd_good {a : Nat} (h0 : 0 < a) (h : a < am_nm) : GoodIn am_gw (am_wsd a) := by
  intro w hw
  rcases List.mem_cons.mp hw with rfl | hw
  · exact am_gw_good (fun _ h => h) _ (am_wsd_code h0 h)
  · exact am_gw_good (fun _ h => h) _ hw
theorem am_mk_s {a : Nat} (h0 : 0 < a) (h : a < am_nm) : (Cond.initialized (am_y a).cls ∈ am_gw) ∧ plainName (am_y a).cls = true ∧ ((am_y a).cls ≠ "java/lang/invoke/MethodHandle" ∧ (am_y a).cls ≠ "java/lang/invoke/VarHandle" ∧ (parseMethodDescriptor (am_y a).desc).map (fun d => d.parameters.length) = some (am_np a)) ∧
    (am_in a = true → (am_y a).name = "<init>" ∧ am_rt a = none) ∧ am_na a = am_np a + (if am_ss a then 0 else 1) ∧ am_own a = (am_y a).cls ∧ (am_ss a = true → Cond.static (am_y a) ∈ am_gw) ∧ (am_ss a = false → Cond.instanceMethod (am_y a) ∈ am_gw ∧ (am_in a = false → Cond.selects (am_y a).cls (am_y a) (am_y a) ∈ am_gw) ∧ ((am_ci a ≤ 8 ∧ am_R (am_ci a) = (am_y a).cls) ∨ (am_ci a = 100 ∧ (am_y a).cls = "java/lang/String"))) ∧
    ((am_rk a = 0 → am_rt a = none) ∧ (am_rk a = 1 → am_rt a = some .int) ∧ (am_rk a = 2 → am_rt a = some .boolean) ∧ (am_rk a = 3 → am_rt a = some .char) ∧ (am_rk a = 4 → am_rt a = some .byte) ∧ (am_rk a = 5 → ∃ t, am_rt a = some t ∧ ((∃ n, t = .object n) ∨ ∃ u, t = .array u))) ∧ am_mx a ≤ 30 := by
  have h1 := am_mk_all a h
  unfold am_mkB at h1
  have ha : Nat.beq a 0 = false := by cases hb : Nat.beq a 0 with
    | false => rfl
    | true => have := Nat.eq_of_beq_eq_true hb; omega
  simp only [ha, Bool.false_or, Bool.and_eq_true, decide_eq_true_eq] at h1
  obtain ⟨⟨⟨⟨⟨⟨⟨⟨⟨⟨⟨⟨h2, h3⟩, h4⟩, h5⟩, h6⟩, h7⟩, h8⟩, h9⟩, h10⟩, h11⟩, h12⟩, h13⟩, h14⟩ := h1
  refine ⟨am_gw_in h4 rfl, h5, ⟨h6, h7, h8⟩, fun hi => ?_, Nat.eq_of_beq_eq_true h10, h11, fun hs => ?_, fun hs => ⟨?_, fun hi => ?_, ?_⟩, ?_, Nat.le_of_ble_eq_true h14⟩
  · rw [hi] at h9
    simp only [Bool.not_true, Bool.false_or, Bool.and_eq_true, decide_eq_true_eq] at h9
    exact h9
  · rw [hs] at h2
    exact am_gw_in h2 rfl
  · rw [hs] at h2
    exact am_gw_in h2 rfl
  · rw [hs, hi] at h3
    exact am_gw_in h3 rfl
  · rw [hs] at h12
    simp only [Bool.false_or, Bool.or_eq_true, Bool.and_eq_true, decide_eq_true_eq, Nat.ble_eq, Nat.beq_eq] at h12
    exact h12
  · refine ⟨fun e => ?_, fun e => ?_, fun e => ?_, fun e => ?_, fun e => ?_, fun e => ?_⟩ <;> rw [e] at h13
    · exact of_decide_eq_true h13
    · exact of_decide_eq_true h13
    · exact of_decide_eq_true h13
    · exact of_decide_eq_true h13
    · exact of_decide_eq_true h13
    · have h13 : (match am_rt a with | some (.object _) => true | some (.array _) => true | _ => false) = true := h13
      split at h13
      · exact ⟨_, by assumption, Or.inl ⟨_, rfl⟩⟩
      · exact ⟨_, by assumption, Or.inr ⟨_, rfl⟩⟩
      · cases h13
