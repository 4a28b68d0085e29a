section
variable {β : Type} (h : β → Prop)
theorem am_ite_n {c : Prop} [Decidable c] (a b : β) : h (ite c a b) = ite c (h a) (h b) := by split <;> rfl
theorem am_cnd_n (c : Bool) (a b : β) : h (cond c a b) = cond c (h a) (h b) := by cases c <;> rfl
theorem am_i1_n (z : β) (st : List am_V) (k : Int32 → List am_V → β) : h (am_i1 z st k) = am_i1 (h z) st (fun x t => h (k x t)) := by unfold am_i1; split <;> rfl
theorem am_i2_n (z : β) (st : List am_V) (k : Int32 → Int32 → List am_V → β) : h (am_i2 z st k) = am_i2 (h z) st (fun x y t => h (k x y t)) := by unfold am_i2; split <;> rfl
theorem am_l1_n (z : β) (st : List am_V) (k : Int64 → List am_V → β) : h (am_l1 z st k) = am_l1 (h z) st (fun x t => h (k x t)) := by unfold am_l1; split <;> rfl
theorem am_l2_n (z : β) (st : List am_V) (k : Int64 → Int64 → List am_V → β) : h (am_l2 z st k) = am_l2 (h z) st (fun x y t => h (k x y t)) := by unfold am_l2; split <;> rfl
theorem am_q1_n (z : β) (st : List am_V) (k : Option (Nat × Nat) → List am_V → β) : h (am_q1 z st k) = am_q1 (h z) st (fun x t => h (k x t)) := by unfold am_q1; split <;> rfl
theorem am_r1_n (z : β) (st : List am_V) (k : Nat → Nat → List am_V → β) : h (am_r1 z st k) = am_r1 (h z) st (fun x y t => h (k x y t)) := by unfold am_r1; split <;> rfl
theorem am_iv_n (z : β) (v : Option am_V) (k : Int32 → β) : h (am_iv z v k) = am_iv (h z) v (fun x => h (k x)) := by unfold am_iv; split <;> rfl
theorem am_lv_n (z : β) (v : Option am_V) (k : Int64 → β) : h (am_lv z v k) = am_lv (h z) v (fun x => h (k x)) := by unfold am_lv; split <;> rfl
theorem am_qv_n (z : β) (v : Option am_V) (k : Option (Nat × Nat) → β) : h (am_qv z v k) = am_qv (h z) v (fun x => h (k x)) := by unfold am_qv; split <;> rfl
theorem am_op_n (z : β) (v : Option (List am_V × List am_V)) (k : List am_V → List am_V → β) : h (am_op z v k) = am_op (h z) v (fun x t => h (k x t)) := by unfold am_op; split <;> rfl
theorem am_nl_n (z : β) (r : Option (Nat × Nat)) (a b : β) : h (am_nl z r a b) = am_nl (h z) r (h a) (h b) := by unfold am_nl; split <;> simp only [am_cnd_n h]
theorem am_al_n (z : β) (r : Option (Nat × Nat)) (a : β) : h (am_al z r a) = am_al (h z) r (h a) := by unfold am_al; split <;> simp only [am_cnd_n h]
theorem am_nil_n (z : β) (st : List am_V) (k : β) : h (am_nil z st k) = am_nil (h z) st (h k) := by unfold am_nil; split <;> rfl
theorem am_sw_n (x : Int32) (d : Nat) (k : Nat → β) (l : List (Int32 × Nat)) : h (am_sw x d k l) = am_sw x d (fun t => h (k t)) l := by
  induction l with
  | nil => rfl
  | cons q r ih => obtain ⟨v, t⟩ := q; unfold am_sw; rw [am_ite_n h, ih]
theorem am_ifc_n (c : ClassFile.Cond) (x : Int32) (a b : β) : h (am_ifc c x a b) = am_ifc c x (h a) (h b) := by cases c <;> exact am_ite_n h _ _
theorem am_icm_n (c : ClassFile.Cond) (x y : Int32) (a b : β) : h (am_icm c x y a b) = am_icm c x y (h a) (h b) := by cases c <;> exact am_ite_n h _ _
theorem am_cl1_n (z : β) (call : am_F → am_F → am_M → β) (mid nx : Nat) (ls : List (Option am_V)) (st : List am_V) (M : am_M) (a : Nat) : h (am_cl1 z call mid nx ls st M a) = am_cl1 (h z) (fun e f M => h (call e f M)) mid nx ls st M a := by
  simp only [am_cl1, am_op_n h, am_cnd_n h, am_r1_n h]
theorem am_inv_n (z : β) (cont : am_F → am_M → β) (call : am_F → am_F → am_M → β) (mid nx : Nat) (ls : List (Option am_V)) (st : List am_V) (M : am_M) (a b : Nat) : h (am_inv z cont call mid nx ls st M a b) = am_inv (h z) (fun f M => h (cont f M)) (fun e f M => h (call e f M)) mid nx ls st M a b := by
  unfold am_inv
  split <;> simp only [am_cl1_n h, am_cnd_n h, am_r1_n h, am_i1_n h, am_i2_n h, am_ite_n h]
theorem am_gst_n (z : β) (cont : am_F → am_M → β) (mid nx : Nat) (ls : List (Option am_V)) (st : List am_V) (M : am_M) (a : Nat) : h (am_gst z cont mid nx ls st M a) = am_gst (h z) (fun f M => h (cont f M)) mid nx ls st M a := by
  unfold am_gst
  split <;> rfl
theorem am_put_n (z : β) (cont : am_F → am_M → β) (mid nx : Nat) (ls : List (Option am_V)) (st : List am_V) (M : am_M) (a b c : Nat) : h (am_put z cont mid nx ls st M a b c) = am_put (h z) (fun f M => h (cont f M)) mid nx ls st M a b c := by
  unfold am_put
  split <;> simp only [am_cnd_n h, am_r1_n h, am_i1_n h, am_q1_n h, am_nl_n h, am_ite_n h]
theorem am_gtf_n (z : β) (cont : am_F → am_M → β) (mid nx : Nat) (ls : List (Option am_V)) (st : List am_V) (M : am_M) (a b c : Nat) : h (am_gtf z cont mid nx ls st M a b c) = am_gtf (h z) (fun f M => h (cont f M)) mid nx ls st M a b c := by
  simp only [am_gtf, am_cnd_n h, am_r1_n h]
theorem am_irt_n (z : β) (ret : Option am_V → am_M → β) (mid : Nat) (st : List am_V) (M : am_M) : h (am_irt z ret mid st M) = am_irt (h z) (fun v M => h (ret v M)) mid st M := by
  simp only [am_irt, am_i1_n h, am_nil_n h]
  congr 1; funext x t; congr 1
  split <;> simp only [am_ite_n h]
set_option maxHeartbeats 4000000 in
theorem am_ins_n (z : β) (cont jmp : am_F → am_M → β) (call : am_F → am_F → am_M → β) (ret : Option am_V → am_M → β) (mid pc : Nat) (ls : List (Option am_V)) (st : List am_V) (M : am_M) (ins : Instr) (nx a b c : Nat) (k : Int32) (sw : List (Int32 × Nat)) :
    h (am_ins z cont jmp call ret mid pc ls st M ins nx a b c k sw) = am_ins (h z) (fun f M => h (cont f M)) (fun f M => h (jmp f M)) (fun e f M => h (call e f M)) (fun v M => h (ret v M)) mid pc ls st M ins nx a b c k sw := by
  cases ins <;> first
    | rfl
    | (simp only [am_ins, am_cnd_n h, am_r1_n h, am_i1_n h, am_i2_n h, am_l1_n h, am_l2_n h, am_q1_n h, am_iv_n h, am_lv_n h, am_qv_n h, am_nl_n h, am_al_n h, am_nil_n h, am_sw_n h, am_ifc_n h, am_icm_n h, am_inv_n h, am_gst_n h, am_put_n h, am_gtf_n h, am_irt_n h, am_ite_n h]; done)
theorem am_st_n (z : β) (cont jmp : am_F → am_M → β) (call : am_F → am_F → am_M → β) (ret : Option am_V → am_M → β) (f : am_F) (M : am_M) :
    h (am_st z cont jmp call ret f M) = am_st (h z) (fun f M => h (cont f M)) (fun f M => h (jmp f M)) (fun e f M => h (call e f M)) (fun v M => h (ret v M)) f M := by
  obtain ⟨mid, pc, ls, st⟩ := f
  unfold am_st
  dsimp only
  split
  · rfl
  · exact am_ins_n h ..
end
def am_el (C J : am_F → am_M → Prop) (K : am_F → am_F → am_M → Prop) (R : Option am_V → am_M → Prop) : Option am_Y → Prop
  | none => False
  | some (.inl (true, f, M)) => C f M
  | some (.inl (false, f, M)) => J f M
  | some (.inr (.inl (e, f, M))) => K e f M
  | some (.inr (.inr (v, M))) => R v M
theorem am_st_el (C J : am_F → am_M → Prop) (K : am_F → am_F → am_M → Prop) (R : Option am_V → am_M → Prop) (f : am_F) (M : am_M) : am_st False C J K R f M = am_el C J K R (am_fn f M) := by
  unfold am_fn
  rw [am_st_n (am_el C J K R)]
  rfl
theorem am_go {fs : List am_F} {d : Nat} {Q : Option am_V → am_M → Prop} : ∀ (k : Nat) {f : am_F} {M : am_M}, am_wk fs d Q k f M → am_WP (f :: fs) d M Q
  | 0, _, _, h => h
  | k + 1, f, M, h => by
    unfold am_wk at h
    rw [am_st_el] at h
    rcases hf : am_fn f M with _ | ⟨⟨b, f', M'⟩ | ⟨e, f', M'⟩ | ⟨v, M'⟩⟩
    · rw [hf] at h; exact h.elim
    · rw [hf] at h
      have h2 : am_WP (f' :: fs) d M' Q := by
        cases b
        · exact h
        · exact am_go k h
      obtain ⟨n, v, M2, h3, h4⟩ := h2
      exact ⟨n + 1, v, M2, by rw [am_run, hf]; exact h3, h4⟩
    · rw [hf] at h
      cases d with
      | zero => exact (h : False).elim
      | succ d =>
        obtain ⟨n, v, M2, h3, h4⟩ := (h : am_WP (e :: f' :: fs) d M' Q)
        exact ⟨n + 1, v, M2, by rw [am_run, hf]; exact h3, h4⟩
    · rw [hf] at h
      cases fs with
      | nil => exact ⟨1, v, M', by rw [am_run, hf], h⟩
      | cons g gs =>
        obtain ⟨n, v2, M2, h3, h4⟩ := (h : am_WP (am_psh g v :: gs) (d + 1) M' Q)
        exact ⟨n + 1, v2, M2, by rw [am_run, hf]; exact h3, h4⟩
theorem am_if {c A B : Prop} {i : Decidable c} (t : c → A) (f : ¬ c → B) : @ite Prop c i A B := by
  split
  · exact t ‹_›
  · exact f ‹_›
theorem am_t {c A B : Prop} {i : Decidable c} (h : c) (a : A) : @ite Prop c i A B := by rw [if_pos h]; exact a
theorem am_f {c A B : Prop} {i : Decidable c} (h : ¬ c) (b : B) : @ite Prop c i A B := by rw [if_neg h]; exact b
