theorem RM_cp {I : Im} {s} {k n4 n5 : Nat} {F : Nat → Int32} {f ff : Nat → Int32} (h : RM I s) (hk : k < 4) (l : n4 + n5 ≤ 24) (hf : ∀ j, j < 24 → (if n4 ≤ j ∧ j < n4 + n5 then f (j - n4) else (sh s k).2.2 j) = ff j) : RM (fl (fl I 47 0 0 n5 F) 35 0 (24 * k + n4) n5 f) (stR s k ((sh s k).1, (sh s k).2.1, ff)) := by
  refine ⟨h.1, h.2.1, fun k' hk' => ?_, h.2.2.2.1, h.2.2.2.2⟩
  show RoM _ k' (fu _ _ _ k')
  by_cases e : k' = k
  · subst e
    rw [fu_s]
    obtain ⟨a, b, c⟩ := h.2.2.1 k' hk'
    refine ⟨a, b, fun j hj => ?_⟩
    show _ = ff j
    rw [← hf j hj, fl_at]
    by_cases q : n4 ≤ j ∧ j < n4 + n5
    · rw [if_pos q, if_pos (by omega), show 24 * k' + j - (24 * k' + n4) = j - n4 by omega]
    · rw [if_neg q, if_neg (by omega), fl_k (Or.inl (by decide))]; exact c j hj
  · rw [fu_n e]
    obtain ⟨a, b, c⟩ := h.2.2.1 k' hk'
    refine ⟨a, b, fun j hj => ?_⟩
    rw [fl_out (by omega), fl_k (Or.inl (by decide))]; exact c j hj
