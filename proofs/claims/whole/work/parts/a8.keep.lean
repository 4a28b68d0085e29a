/-! what stays within its bounds over every call -/
def GG (s : St) : Prop := GS s ∧ GP s
theorem isB_l {s : St} {x : Int32} (G : GS s) (h : isB s x) : kx x < nb s := (okb rfl G.1.1.1 h).2
theorem bd_0 {v : Nat} (h : v ≤ 5) : bd0 0 v := ⟨fun _ => h, fun e => absurd e (by decide), fun e => absurd e (by decide), fun e => absurd e (by decide), fun e => absurd e (by decide)⟩
theorem bd_1 {v : Nat} (h : v ≤ 99) : bd0 1 v := ⟨fun e => absurd e (by decide), fun _ => h, fun e => absurd e (by decide), fun e => absurd e (by decide), fun e => absurd e (by decide)⟩
theorem bd_2 {v : Nat} (h : v ≤ 1) : bd0 2 v := ⟨fun e => absurd e (by decide), fun e => absurd e (by decide), fun _ => h, fun e => absurd e (by decide), fun e => absurd e (by decide)⟩
theorem bd_3 {v : Nat} (h : v ≤ 6) : bd0 3 v := ⟨fun e => absurd e (by decide), fun e => absurd e (by decide), fun e => absurd e (by decide), fun _ => h, fun e => absurd e (by decide)⟩
theorem bd_4 {v : Nat} : bd0 4 v := ⟨fun e => absurd e (by decide), fun e => absurd e (by decide), fun e => absurd e (by decide), fun e => absurd e (by decide), fun e => absurd e (by decide)⟩
theorem bd_5 {v : Nat} (h : v ≤ 3) : bd0 5 v := ⟨fun e => absurd e (by decide), fun e => absurd e (by decide), fun e => absurd e (by decide), fun e => absurd e (by decide), fun _ => h⟩
theorem okm {x : Int32} {m : Nat} (hm : m < 2 ^ 31) (h : 0 ≤ x ∧ x ≤ nI m) : kx x ≤ m := (okl hm h).2
theorem g_as {s : St} (G : GG s) (x : Int32) (y : Int32) : GG (f_as s x y).2 := by
  unfold f_as
  repeat' split
  all_goals exact G
theorem g_told {s : St} (G : GG s) (x : Int32) (w : Int32) : GG (f_told s x w).2 := by
  unfold f_told
  repeat' split
  all_goals exact G
theorem g_count {s : St} (G : GG s) (w : Int32) : GG (f_count s w).2 := by
  unfold f_count
  repeat' split
  all_goals exact G
theorem g_rest {s : St} (G : GG s) (x : Int32) (n : Int32) : GG (f_rest s x n).2 := by
  unfold f_rest
  repeat' split
  all_goals exact G
theorem g_item {s : St} (G : GG s) (x : Int32) (p : Int32) : GG (f_item s x p).2 := by
  unfold f_item
  repeat' split
  all_goals exact G
theorem g_ask {s : St} (G : GG s) (x : Int32) (y : Int32) : GG (f_ask s x y).2 := by
  unfold f_ask
  repeat' split
  all_goals exact G
theorem g_reads {s : St} (G : GG s) (x : Int32) (y : Int32) : GG (f_reads s x y).2 := by
  unfold f_reads
  repeat' split
  all_goals exact G
theorem g_cellar {s : St} (G : GG s) (w : Int32) : GG (f_cellar s w).2 := by
  unfold f_cellar
  repeat' split
  all_goals exact G
theorem g_layer {s : St} (G : GG s) (x : Int32) (l : Int32) (w : Int32) : GG (f_layer s x l w).2 := by
  unfold f_layer
  repeat' split
  all_goals exact G
theorem g_fee {s : St} (G : GG s)  : GG (f_fee s ).2 := by
  unfold f_fee
  repeat' split
  all_goals exact G
theorem g_fine {s : St} (G : GG s) (x : Int32) : GG (f_fine s x).2 := by
  unfold f_fine
  repeat' split
  all_goals exact G
theorem g_why {s : St} (G : GG s) (x : Int32) : GG (f_why s x).2 := by
  unfold f_why
  repeat' split
  all_goals exact G
theorem g_textTold {s : St} (G : GG s) (x : Int32) (w : Int32) : GG (f_textTold s x w).2 := by
  unfold f_textTold
  repeat' split
  all_goals exact G
theorem g_tried {s : St} (G : GG s) (x : Int32) (y : Int32) (z : Int32) (w : Int32) : GG (f_tried s x y z w).2 := by
  unfold f_tried
  repeat' split
  all_goals exact G
theorem g_depth {s : St} (G : GG s) (x : Int32) (z : Int32) (w : Int32) : GG (f_depth s x z w).2 := by
  unfold f_depth
  repeat' split
  all_goals exact G
theorem g_tree {s : St} (G : GG s) (x : Int32) (z : Int32) (w : Int32) : GG (f_tree s x z w).2 := by
  unfold f_tree
  repeat' split
  all_goals exact G
theorem g_behind {s : St} (G : GG s) (x : Int32) (w : Int32) : GG (f_behind s x w).2 := by
  unfold f_behind
  repeat' split
  all_goals exact G
theorem g_when {s : St} (G : GG s) (x : Int32) (z : Int32) (w : Int32) : GG (f_when s x z w).2 := by
  unfold f_when
  repeat' split
  all_goals exact G
theorem g_which {s : St} (G : GG s) (x : Int32) (z : Int32) (w : Int32) : GG (f_which s x z w).2 := by
  unfold f_which
  repeat' split
  all_goals exact G
theorem g_laid {s : St} (G : GG s) (x : Int32) (y : Int32) (z : Int32) : GG (f_laid s x y z).2 := by
  unfold f_laid
  repeat' split
  all_goals exact G
theorem g_old {s : St} (G : GG s) (x : Int32) (w : Int32) : GG (f_old s x w).2 := by
  unfold f_old
  repeat' split
  all_goals exact G
theorem g_turns {s : St} (G : GG s) (x y : Int32) : GG (f_turns s x y).2 := by
  unfold f_turns
  split
  · rename_i h0
    split
    · rename_i h1
      exact ⟨GS_w0 G.1 (isB_l G.1 h0) (bd_0 (okm (by decide) h1)), G.2⟩
    · exact G
  · exact G
theorem g_sets {s : St} (G : GG s) (x l w v : Int32) : GG (f_sets s x l w v).2 := by
  unfold f_sets
  split
  · rename_i h0
    split
    · split
      · split
        · rename_i h3
          split
          · exact ⟨GS_w1 G.1 (isB_l G.1 h0) (okm (by decide) h3), G.2⟩
          · exact ⟨GS_w2 G.1 (isB_l G.1 h0) (okm (by decide) h3), G.2⟩
        · exact G
      · exact G
    · exact G
  · exact G
theorem g_set {s : St} (G : GG s) (x w v : Int32) : GG (f_set s x w v).2 := by
  unfold f_set
  split
  · rename_i h0
    split
    · split
      · split
        · rename_i h3
          exact ⟨GS_w0 G.1 (isB_l G.1 h0) (bd_1 (okm (by decide) h3)), G.2⟩
        · exact G
      · split
        · rename_i h3
          exact ⟨GS_w0 G.1 (isB_l G.1 h0) (bd_2 (okm (by decide) h3)), G.2⟩
        · exact G
    · exact G
  · exact G
theorem g_push {s : St} (G : GG s) (x : Int32) : GG (f_push s x).2 := by
  unfold f_push
  split
  · rename_i h0
    split
    · exact G
    · exact ⟨GS_w0 (GS_w0 G.1 (isB_l G.1 h0) (bd_3 (Nat.zero_le _))) (show kx x < nb s from isB_l G.1 h0) bd_4, G.2⟩
  · exact G
theorem g_warm {s : St} (G : GG s) (x : Int32) : GG (f_warm s x).2 := by
  unfold f_warm
  split
  · rename_i h0
    split
    · exact G
    · exact ⟨GS_w0 G.1 (isB_l G.1 h0) (bd_5 (by omega)), G.2⟩
  · exact G
theorem g_pull {s : St} (G : GG s) (x y z : Int32) : GG (f_pull s x y z).2 := by
  unfold f_pull
  split
  · rename_i h0
    have hb := (GS_b G.1 (isB_l G.1 h0)).2.2.2.1
    split
    · split
      · split
        · exact G
        · exact ⟨GS_w0 (GS_w0 G.1 (isB_l G.1 h0) (bd_3 (by omega))) (show kx x < nb s from isB_l G.1 h0) bd_4, G.2⟩
      · exact G
    · exact G
  · exact G
theorem g_rule {s : St} (G : GG s) (w v : Int32) : GG (f_rule s w v).2 := by
  unfold f_rule
  split
  · split
    · split
      · rename_i h3
        have := okm (m := 100) (by decide) h3
        exact ⟨GS_h G.1 ⟨fun e => absurd e (by decide), fun _ => this, fun e => absurd e (by decide)⟩, G.2⟩
      · exact G
    · split
      · rename_i h3
        have := okm (m := 5) (by decide) h3
        exact ⟨GS_h G.1 ⟨fun e => absurd e (by decide), fun e => absurd e (by decide), fun _ => this⟩, G.2⟩
      · exact G
  · exact G
theorem g_seed {s : St} (G : GG s) (v : Int32) : GG (f_seed s v).2 := ⟨GS_z G.1, G.2⟩
theorem g_tell {s : St} (G : GG s) (v : Int32) : GG (f_tell s v).2 := by
  unfold f_tell
  split
  · rename_i h
    obtain ⟨⟨a, b, c, d, e, f⟩, g⟩ := G
    exact ⟨⟨a, b, c, d, (by show wn s + 1 ≤ 60; omega), f⟩, g⟩
  · exact G
theorem g_trim {s : St} (G : GG s) (n : Int32) : GG (f_trim s n).2 := by
  unfold f_trim
  split
  · rename_i h
    obtain ⟨⟨a, b, c, d, e, f, f2⟩, g⟩ := G
    have f' : tn s ≤ 96 := f
    have := okm (m := tn s) (by omega) h
    exact ⟨⟨a, b, c, d, e, (by show kx n ≤ 96; omega), fun j hj => f2 j (by have hj : j < kx n := hj; show j < tn s; omega)⟩, g⟩
  · exact G
theorem GG_R {s : St} (G : GG s) {k : Nat} {r : Ro} (hr : GR r) (hp : ∀ j, j < 24 → GPl (r.2.2 j)) : GG (stR s k r) := by
  obtain ⟨⟨a, b, c, d⟩, g⟩ := G
  refine ⟨⟨a, b, fun k' hk' => ?_, d⟩, fun k' hk' j hj => ?_⟩
  · show GR (fu _ _ _ k')
    by_cases e : k' = k
    · rw [e, fu_s]; exact hr
    · rw [fu_n e]; exact c k' hk'
  · show GPl ((fu s.2.2.1 k r k').2.2 j)
    by_cases e : k' = k
    · rw [e, fu_s]; exact hp j hj
    · rw [fu_n e]; exact g k' hk' j hj
theorem GPl_0 : GPl 0 := Or.inr ⟨by decide, by decide⟩
theorem g_sheet {s : St} (G : GG s) (x t n : Int32) : GG (f_sheet s x t n).2 := by
  unfold f_sheet
  split
  · split
    · rename_i h1
      split
      · exact GG_R G ⟨Or.inl ⟨rfl, rfl⟩, Nat.zero_le _⟩ (fun _ _ => GPl_0)
      · rename_i h2
        split
        · rename_i h3
          split
          · rename_i h4
            refine GG_R G ⟨Or.inr ?_, okm (m := 24) (by decide) ⟨h4, h3⟩⟩ (fun _ _ => GPl_0)
            have e1 := Int32.le_iff_toInt_le.mp h1.1
            have e2 := Int32.le_iff_toInt_le.mp h1.2
            rw [show (-1 : Int32).toInt = -1 from rfl] at e1
            rw [show (1 : Int32).toInt = 1 from rfl] at e2
            have e3 : t.toInt ≠ -1 := fun z => h2 (Int32.toInt_inj.mp z)
            show t = 0 ∨ t = 1
            rcases (show t.toInt = 0 ∨ t.toInt = 1 by omega) with q | q
            · exact Or.inl (Int32.toInt_inj.mp q)
            · exact Or.inr (Int32.toInt_inj.mp q)
          · exact G
        · exact G
    · exact G
  · exact G
theorem GPl_16 (v : Int32) : GPl v.toInt16.toInt32 := by
  right
  have h1 := Int16.le_toInt v.toInt16
  have h2 := Int16.toInt_lt v.toInt16
  have e : v.toInt16.toInt32.toInt = v.toInt16.toInt := Int16.toInt_toInt32 _
  rw [e]
  omega
theorem g_mark {s : St} (G : GG s) (x p v : Int32) : GG (f_mark s x p v).2 := by
  unfold f_mark
  split
  · rename_i h0
    have hx := okm (m := 3) (by decide) h0
    have gr : GR (sh s (kx x)) := G.1.2.2.1 (kx x) (by omega)
    have w : ∀ u : Int32, GPl u → GG (stR s (kx x) ((sh s (kx x)).1, (sh s (kx x)).2.1, fu (sh s (kx x)).2.2 (kx p) u)) := fun u hu => GG_R G gr (fun j hj => by
      show GPl (fu _ _ _ j)
      by_cases e : j = kx p
      · rw [e, fu_s]; exact hu
      · rw [fu_n e]; exact G.2 (kx x) (by omega) j hj)
    split
    · exact G
    · split
      · split
        · split
          · exact G
          · exact w _ (GPl_16 v)
        · split
          · rename_i q; exact w _ (Or.inl q)
          · split
            · rename_i q
              refine w _ (Or.inr ?_)
              have e1 := Int32.le_iff_toInt_le.mp q.1
              have e2 := Int32.le_iff_toInt_le.mp q.2
              rw [show (-99999 : Int32).toInt = -99999 from rfl] at e1
              rw [show (99999 : Int32).toInt = 99999 from rfl] at e2
              omega
            · exact G
      · exact G
  · exact G
theorem pov_le {r : Ro} {β : Bn} {i : Nat} (h : β.2.2 i ≤ 24) : pov r β i ≤ 24 := by
  unfold pov
  split
  · exact clN_le _ _ (by decide)
  · exact h
theorem g_poS {r : Ro} {k : Nat} : ∀ (n i : Nat) (s : St) (c : Nat), i + n ≤ 6 → GG s → k < nb s → GG (poS r k n i s c).2
  | 0, _, _, _, _, G, _ => G
  | n + 1, i, s, c, hi, G, hk => g_poS n (i + 1) _ _ (by omega) ⟨GS_w2 G.1 hk (pov_le ((GS_b G.1 hk).2.2.2.2.2 i (by omega)).2), G.2⟩ hk
theorem g_pour {s : St} (G : GG s) (x y : Int32) : GG (f_pour s x y).2 := by
  unfold f_pour
  split
  · rename_i h0
    split
    · split
      · exact G
      · exact g_poS 6 0 s 0 (by omega) G (isB_l G.1 h0)
    · exact G
  · exact G
/-- another cellar -/
theorem GG_C {s : St} (G : GG s) {σ : Cn} (hD : GD σ) (hy : σ.2.1 0 ≤ 9999) : GG ((σ, s.1.2), s.2) := by
  obtain ⟨⟨⟨a1, a2, a3⟩, b⟩, g⟩ := G
  exact ⟨⟨⟨⟨hD.1, (by show σ.2.1 0 ≤ 100000; omega), hD.2.1, hD.2.2.1, hD.2.2.2⟩, hy, a3⟩, b⟩, g⟩
theorem yrL_g : ∀ (n : Nat) (σ : Cn) (c : Nat), GD σ → σ.2.1 0 ≤ 9999 → GD (yrL n σ c).2 ∧ (yrL n σ c).2.2.1 0 ≤ 9999
  | 0, _, _, h, hy => ⟨h, hy⟩
  | n + 1, σ, c, h, hy => by
    rw [yrL]
    split
    · rename_i q
      exact yrL_g n (yearN σ) _ (GD_year h) (by rw [year_y]; omega)
    · exact ⟨h, hy⟩
theorem g_years {s : St} (G : GG s) (x : Int32) : GG (f_years s x).2 := by
  unfold f_years
  split
  · have h := yrL_g (kx x) s.1.1 0 (GC_D G.1.1.1) G.1.1.2.1
    exact GG_C G h.1 h.2
  · exact G
theorem g_bottle {s : St} (G : GG s) (x y z : Int32) : GG (f_bottle s x y z).2 := by
  unfold f_bottle
  split
  · rename_i h0
    split
    · rename_i h1
      split
      · rename_i h2
        split
        · rename_i h3
          exact GG_C G (GD_add (GC_D G.1.1.1) h3 (GB_new (okm (by decide) h0) (okm (by decide) h1) (okm (by decide) h2))) G.1.1.2.1
        · exact G
      · exact G
    · exact G
  · exact G
theorem dlS_g : ∀ (n : Nat) (σ : Cn) (c : Nat), GD σ → σ.2.1 0 ≤ 9999 → GD (dlS n σ c).2 ∧ (dlS n σ c).2.2.1 0 ≤ 9999
  | 0, _, _, h, hy => ⟨h, hy⟩
  | n + 1, σ, c, h, hy => by
    rw [dlS]
    split
    · rename_i q
      exact dlS_g n (dealB σ) _ (GD_deal h q) (by rw [(dealB_n σ).2]; exact hy)
    · exact ⟨h, hy⟩
theorem g_deal {s : St} (G : GG s) (x : Int32) : GG (f_deal s x).2 := by
  unfold f_deal
  split
  · have h := dlS_g (kx x) s.1.1 0 (GC_D G.1.1.1) G.1.1.2.1
    exact GG_C G h.1 h.2
  · exact G
theorem g_keep {s : St} (G : GG s) : GG (f_keep s).2 := by
  obtain ⟨⟨a, b, c⟩, g⟩ := G
  exact ⟨⟨a, fun e he => by cases he; exact a, c⟩, g⟩
theorem g_back {s : St} (G : GG s) : GG (f_back s).2 := by
  unfold f_back
  split
  · exact G
  · rename_i e he
    obtain ⟨⟨a, b, c⟩, g⟩ := G
    exact ⟨⟨b e he, b, c⟩, g⟩
theorem tpS_g {s : St} (G : GG s) (hs : tn s < 96) {v : Nat} (hv : v < 256) : GG (tpS s v) := by
  obtain ⟨⟨a, b, c, d, e, f, f2⟩, g⟩ := G
  refine ⟨⟨a, b, c, d, e, (by show tn s + 1 ≤ 96; omega), fun j hj => ?_⟩, g⟩
  have hj : j < tn s + 1 := hj
  show fu s.2.2.2.2.2.2 (tn s) v j < 256
  by_cases q : j = tn s
  · rw [q, fu_s]; exact hv
  · rw [fu_n q]; exact f2 j (by show j < tn s; omega)
theorem feS_g {a b c : Int32} : ∀ (n i : Nat) (s : St), GG s → tn s + n ≤ 96 → GG (feS a b c n i s)
  | 0, _, _, G, _ => G
  | n + 1, i, s, G, h => feS_g n (i + 1) _ (tpS_g G (by omega) (bt_lt _ _)) (by show tn s + 1 + n ≤ 96; omega)
theorem g_feed {s : St} (G : GG s) (a b c : Int32) : GG (f_feed s a b c).2 := by
  unfold f_feed
  split
  · exact feS_g 12 0 s G (by omega)
  · exact G
theorem GG_S {s : St} (G : GG s) {k : Nat} {v : Sl} (h : v.1 ≤ 3 ∧ v.2.2.2.1 ≤ 24 ∧ (v.1 = 1 → ∃ a, a ≤ 5 ∧ v.2.1 = nI a)) : GG (stS s k v) := by
  obtain ⟨⟨a, b, c, d, e⟩, g⟩ := G
  refine ⟨⟨a, b, c, fun k' hk' => ?_, e⟩, g⟩
  show (fu s.2.2.2.1 k v k').1 ≤ 3 ∧ (fu s.2.2.2.1 k v k').2.2.2.1 ≤ 24 ∧ ((fu s.2.2.2.1 k v k').1 = 1 → ∃ a, a ≤ 5 ∧ (fu s.2.2.2.1 k v k').2.1 = nI a)
  by_cases q : k' = k
  · rw [q, fu_s]; exact h
  · rw [fu_n q]; exact d k' hk'
theorem g_lay {s : St} (G : GG s) (x t k : Int32) : GG (f_lay s x t k).2 := by
  unfold f_lay
  split
  · rename_i h0
    have hx := okm (m := 4) (by decide) h0
    have hs := G.1.2.2.2.1 (kx x) (by omega)
    split
    · exact GG_S G ⟨(by decide : 0 ≤ 3), hs.2.1, fun z => absurd (show 0 = 1 from z) (by decide)⟩
    · split
      · split
        · rename_i h2
          exact GG_S G ⟨(by decide : 1 ≤ 3), hs.2.1, fun _ => ⟨_, (GS_b G.1 (isB_l G.1 h2)).1, rfl⟩⟩
        · exact G
      · split
        · split
          · rename_i h2
            have hk := okm (m := 3) (by decide) h2
            split
            · exact G
            · exact GG_S G ⟨(by decide : 2 ≤ 3), (G.1.2.2.1 (kx k) (by omega)).2, fun z => absurd (show 2 = 1 from z) (by decide)⟩
          · exact G
        · split
          · exact GG_S G ⟨(by decide : 3 ≤ 3), hs.2.1, fun z => absurd (show 3 = 1 from z) (by decide)⟩
          · exact G
  · exact G
theorem g_copy {s : St} (G : GG s) (x p y a m : Int32) : GG (f_copy s x p y a m).2 := by
  unfold f_copy
  split
  · rename_i h0
    have hx := okm (m := 3) (by decide) h0
    split
    · rename_i h1
      have hy := okm (m := 3) (by decide) h1
      split
      · exact G
      · split
        · exact G
        · split
          · split
            · rename_i q1
              split
              · rename_i q2
                have c1 := (inR_n q1).2.2
                have c2 : (sh s (kx x)).2.1 ≤ 24 := (G.1.2.2.1 (kx x) (by omega)).2
                refine GG_R G (G.1.2.2.1 (kx y) (by omega)) (fun j hj => ?_)
                show GPl (cpF _ _ _ _ _ j)
                unfold cpF
                split
                · exact G.2 (kx x) (by omega) _ (by omega)
                · exact G.2 (kx y) (by omega) j hj
              · exact G
            · exact G
          · exact G
    · exact G
  · exact G
theorem g_check {s : St} (G : GG s) (x : Int32) : GG (f_check s x).2 := by
  have w : GG (wt0 s) := ⟨GS_wt0 G.1, G.2⟩
  unfold f_check
  split
  · split
    · exact w
    · exact w
  · exact w
theorem g_text {s : St} (G : GG s) : GG (f_text s).2 := by
  have w : GG (tp0 s) := ⟨GS_tp0 G.1, G.2⟩
  unfold f_text
  split
  · rename_i er
    have gt := prs_g (t := s.2.2.2.2.2.2) G.1.2.2.2.2.2.1 er
    split
    · exact w
    · rename_i h14
      obtain ⟨⟨⟨a1, a2, a3, a4⟩, b⟩, g⟩ := w
      refine ⟨⟨⟨a1, a2, (by show s.1.2.1 + 1 ≤ 14; omega), fun t ht => ?_⟩, b⟩, g⟩
      have ht : t < s.1.2.1 + 1 := ht
      show GT (fu s.1.2.2 s.1.2.1 _ t)
      by_cases e : t = s.1.2.1
      · rw [e, fu_s]; exact gt
      · rw [fu_n e]; exact a4 t (by show t < s.1.2.1; omega)
  · exact w
