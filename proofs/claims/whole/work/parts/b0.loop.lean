/-! the law's loop -/
theorem lw_c {i L : Nat} (hi : i ≤ 4000) (hL : L ≤ 3072) : Int32.ofNat L - 6 < nI i ↔ L < i + 6 := by
  have e1 : (nI L).toInt = L := nI_toInt (by omega)
  have e2 : (nI i).toInt = i := nI_toInt (by omega)
  have e3 : (6 : Int32).toInt = 6 := rfl
  have e4 : (nI L - 6).toInt = L - 6 := by rw [i32_sub (by rw [e1, e3]; omega) (by rw [e1, e3]; omega), e1, e3]
  show nI L - 6 < nI i ↔ _
  rw [Int32.lt_iff_toInt_lt, e4, e2]
  omega
set_option maxRecDepth 100000 in
set_option maxHeartbeats 4000000 in
theorem lw_18 {I : Im} {X : am_Z} {s : St} {i L d : Nat} {fs : List am_F} {Q : Option am_V → am_M → Prop} (H : LwH I X s) (hL : X.2.2.2.2.1 = L) (hi : i + 6 ≤ L) (hL2 : L ≤ 3072) (K : ∀ (I' : Im) (X' : am_Z) (s' : St), LwH I' X' s' → LwF X X' → am_WP ((mL_law, 1676, [some (.inr (.inr (some (96, 0)))), some (.inr (.inr (some (7, 0)))), some (.inr (.inr (some (8, 0)))), some (.inl (nI i))], []) :: fs) (d + 701) (mk I' X') Q) : am_WP ((mL_law, 18, [some (.inr (.inr (some (96, 0)))), some (.inr (.inr (some (7, 0)))), some (.inr (.inr (some (8, 0)))), some (.inl (nI i))], []) :: fs) (d + 701) (mk I X) Q := by
  refine am_go 400 ?_
  refine am_f (mt (lw_c (i := i) (L := X.2.2.2.2.1) (by omega) (by omega)).mp (by omega)) ?_
  refine am_f (ix_in (n := i) (N := X.2.2.2.2.1) rfl (by omega) (by omega)) ?_
  refine am_if (fun _ => am_cut (lw_bottle H hL hi hL2 K)) (fun _ => ?_)
  refine am_if (fun _ => am_cut (lw_told H hL hi hL2 K)) (fun _ => ?_)
  refine am_if (fun _ => am_cut (lw_layer H hL hi hL2 K)) (fun _ => ?_)
  refine am_if (fun _ => am_cut (lw_sets H hL hi hL2 K)) (fun _ => ?_)
  refine am_if (fun _ => am_cut (lw_as H hL hi hL2 K)) (fun _ => ?_)
  refine am_if (fun _ => am_cut (lw_turns H hL hi hL2 K)) (fun _ => ?_)
  refine am_if (fun _ => am_cut (lw_set H hL hi hL2 K)) (fun _ => ?_)
  refine am_if (fun _ => am_cut (lw_pull H hL hi hL2 K)) (fun _ => ?_)
  refine am_if (fun _ => am_cut (lw_push H hL hi hL2 K)) (fun _ => ?_)
  refine am_if (fun _ => am_cut (lw_warm H hL hi hL2 K)) (fun _ => ?_)
  refine am_if (fun _ => am_cut (lw_rule H hL hi hL2 K)) (fun _ => ?_)
  refine am_if (fun _ => am_cut (lw_deal H hL hi hL2 K)) (fun _ => ?_)
  refine am_if (fun _ => am_cut (lw_seed H hL hi hL2 K)) (fun _ => ?_)
  refine am_if (fun _ => am_cut (lw_years H hL hi hL2 K)) (fun _ => ?_)
  refine am_if (fun _ => am_cut (lw_cellar H hL hi hL2 K)) (fun _ => ?_)
  refine am_if (fun _ => am_cut (lw_tried H hL hi hL2 K)) (fun _ => ?_)
  refine am_if (fun _ => am_cut (lw_depth H hL hi hL2 K)) (fun _ => ?_)
  refine am_if (fun _ => am_cut (lw_tree H hL hi hL2 K)) (fun _ => ?_)
  refine am_if (fun _ => am_cut (lw_behind H hL hi hL2 K)) (fun _ => ?_)
  refine am_if (fun _ => am_cut (lw_when H hL hi hL2 K)) (fun _ => ?_)
  refine am_if (fun _ => am_cut (lw_which H hL hi hL2 K)) (fun _ => ?_)
  refine am_if (fun _ => am_cut (lw_laid H hL hi hL2 K)) (fun _ => ?_)
  refine am_if (fun _ => am_cut (lw_old H hL hi hL2 K)) (fun _ => ?_)
  refine am_if (fun _ => am_cut (lw_fee H hL hi hL2 K)) (fun _ => ?_)
  refine am_if (fun _ => am_cut (lw_fine H hL hi hL2 K)) (fun _ => ?_)
  refine am_if (fun _ => am_cut (lw_feed H hL hi hL2 K)) (fun _ => ?_)
  refine am_if (fun _ => am_cut (lw_trim H hL hi hL2 K)) (fun _ => ?_)
  refine am_if (fun _ => am_cut (lw_text H hL hi hL2 K)) (fun _ => ?_)
  refine am_if (fun _ => am_cut (lw_textTold H hL hi hL2 K)) (fun _ => ?_)
  refine am_if (fun _ => am_cut (lw_why H hL hi hL2 K)) (fun _ => ?_)
  refine am_if (fun _ => am_cut (lw_sheet H hL hi hL2 K)) (fun _ => ?_)
  refine am_if (fun _ => am_cut (lw_mark H hL hi hL2 K)) (fun _ => ?_)
  refine am_if (fun _ => am_cut (lw_pour H hL hi hL2 K)) (fun _ => ?_)
  refine am_if (fun _ => am_cut (lw_reads H hL hi hL2 K)) (fun _ => ?_)
  refine am_if (fun _ => am_cut (lw_copy H hL hi hL2 K)) (fun _ => ?_)
  refine am_if (fun _ => am_cut (lw_lay H hL hi hL2 K)) (fun _ => ?_)
  refine am_if (fun _ => am_cut (lw_ask H hL hi hL2 K)) (fun _ => ?_)
  refine am_if (fun _ => am_cut (lw_item H hL hi hL2 K)) (fun _ => ?_)
  refine am_if (fun _ => am_cut (lw_rest H hL hi hL2 K)) (fun _ => ?_)
  refine am_if (fun _ => am_cut (lw_tell H hL hi hL2 K)) (fun _ => ?_)
  refine am_if (fun _ => am_cut (lw_check H hL hi hL2 K)) (fun _ => ?_)
  refine am_if (fun _ => am_cut (lw_keep H hL hi hL2 K)) (fun _ => ?_)
  refine am_if (fun _ => am_cut (lw_back H hL hi hL2 K)) (fun _ => ?_)
  refine am_if (fun _ => am_cut (lw_count H hL hi hL2 K)) (fun _ => ?_)
  exact am_cut (K I X s H LwF_r)
set_option maxRecDepth 100000 in
theorem lw_nx {M : am_M} {i D : Nat} {fs : List am_F} {Q : Option am_V → am_M → Prop} (K : am_WP ((mL_law, 18, [some (.inr (.inr (some (96, 0)))), some (.inr (.inr (some (7, 0)))), some (.inr (.inr (some (8, 0)))), some (.inl (nI (i + 6)))], []) :: fs) D M Q) : am_WP ((mL_law, 1676, [some (.inr (.inr (some (96, 0)))), some (.inr (.inr (some (7, 0)))), some (.inr (.inr (some (8, 0)))), some (.inl (nI i))], []) :: fs) D M Q := by
  refine am_go 400 ?_
  show am_WP ((mL_law, 18, [some (.inr (.inr (some (96, 0)))), some (.inr (.inr (some (7, 0)))), some (.inr (.inr (some (8, 0)))), some (.inl (nI i + 6))], []) :: fs) D M Q
  rw [show nI i + 6 = nI (i + 6) from nI_addE rfl (rfl : (6 : Int32) = nI 6)]
  exact K
set_option maxRecDepth 100000 in
theorem lw_ex {I : Im} {X : am_Z} {i L D : Nat} {Q : Option am_V → am_M → Prop} (hL : X.2.2.2.2.1 = L) (hi : L < i + 6) (hi2 : i ≤ 4000) (hL2 : L ≤ 3072) (K : Q (some (.inl 1)) (mk I X)) : am_WP [(mL_law, 18, [some (.inr (.inr (some (96, 0)))), some (.inr (.inr (some (7, 0)))), some (.inr (.inr (some (8, 0)))), some (.inl (nI i))], [])] D (mk I X) Q := by
  refine am_go 400 ?_
  refine am_t ((lw_c (i := i) (L := X.2.2.2.2.1) (by omega) (by omega)).mpr (by omega)) ?_
  exact K
set_option maxRecDepth 100000 in
theorem l_law {L d : Nat} {Q : Option am_V → am_M → Prop} (hL2 : L ≤ 3072) (K : ∀ (I : Im) (X : am_Z), X.2.2.2.2.2.1 ≤ 5000 → X.2.2.2.2.2.2 ≤ 200000 → Q (some (.inl 1)) (mk I X)) : ∀ (m k i : Nat) (I : Im) (X : am_Z) (s : St), L ≤ i + 6 * m → i = 6 * k → i ≤ L + 5 → LwH I X s → X.2.2.2.2.1 = L → X.2.2.2.2.2.1 ≤ 200 + 3 * k → X.2.2.2.2.2.2 ≤ 20000 + 300 * k → am_WP [(mL_law, 18, [some (.inr (.inr (some (96, 0)))), some (.inr (.inr (some (7, 0)))), some (.inr (.inr (some (8, 0)))), some (.inl (nI i))], [])] (d + 701) (mk I X) Q
  | 0, k, i, I, X, s, hm, hk, hi, H, hL, hc, hs => lw_ex hL (by omega) (by omega) hL2 (K I X (by omega) (by omega))
  | m + 1, k, i, I, X, s, hm, hk, hi, H, hL, hc, hs => by
    by_cases h6 : i + 6 ≤ L
    · refine lw_18 H hL h6 hL2 (fun I' X' s' H' F' => ?_)
      refine lw_nx ?_
      exact l_law hL2 K m (k + 1) (i + 6) I' X' s' (by omega) (by omega) (by omega) H' (F'.1.trans hL) (Nat.le_trans F'.2.1 (by omega)) (Nat.le_trans F'.2.2 (by omega))
    · exact lw_ex hL (by omega) (by omega) hL2 (K I X (by omega) (by omega))
