/-! THE CLAIM OUT OF ONE WALK OF THE LAW'S BODY. Your part is whole_start (and what it stands on); all else here is the same for every law, but numbers. -/
def R_law : String := "CorkBreaksLaw"
def lw_P (b : Addr) (xs : List Int32) (args : Array Value) (s : State) : Prop := args = #[.ref b] ∧ s.IntsAt b xs ∧ xs.length ≤ 3072 ∧ (Jvm.Cond.and given_1 narrow_1).before args s = true
def lw_Q (_ : Array Value) (s : State) (o : Outcome) (t : State) : Prop := o = .returned (some (.int 1)) ∧ Framed s o t [] 600000 7302250
def lw_Z (below : List Frame) (a : Array Value) (s : State) : State → Prop := fun t => ∃ o, t.status = .running ∧ Ended t below o ∧ lw_Q a s o t
/-- the law's own end, with 1 on the stack, nothing written that was there before, its room as the claim has it -/
theorem lw_ret {p : Program} {l : Launch} {e : Env} {s : State} {m : MethodId} {below : List Frame} {meth : Method} {c : Code} {b : Nat} (hx : p.tables.exec = Jvm.exec) (hb : c.code = code) (hr : meth.sig.returnType = ret) (hlocks : meth.locks = false) {pc : Nat} {H : Heap} {ls : Array Slot} (hdg : decode code pc = .ok (.ireturn, 1)) : W p l e room_1 s m #[Value.ref b] below meth c H [] 600000 7302250 (lw_Z below #[Value.ref b] s) (F0 m pc ls [.int 1]) := by
  intro T hT X
  obtain ⟨fs, hret, hrun, hended, hW, hframe⟩ := X.leave (v := some (.int 1)) (hlocks := hlocks) (fun h => by rw [hr] at h; cases h)
  have hmeth' : T.vm.method? m = some meth := X.method'
  refine ⟨T.setFrames fs, ?_, .returned (some (.int 1)), hrun, hended, rfl, ⟨_, rfl⟩, hW, hframe⟩
  jvm_step X.here [X.here.top, hx, hb, hdg, hmeth', hr, ret, narrow_b1]
  (try refine ⟨rfl, ?_⟩); (try refine ⟨rfl, ?_⟩)
  first | (intro acts; rw [hret _ acts rfl rfl rfl]) | rw [hret _ _ rfl rfl rfl]
  exact Steps.refl _
/-- what holds at the law's entry: the machine, the code, the tables' words (any of lw_tbl by 'hts w (by decide +kernel)'), the script of L ints xs at the cell b, what the Statement gives of the start (any of its parts by flat_of_before) -/
def lw_At (p : Program) (s : State) (m : MethodId) (meth : Method) (c : Code) (b L : Nat) (xs : Nat → Int32) : Prop :=
  p.tables.exec = Jvm.exec ∧ c.code = code ∧ meth.sig.returnType = ret ∧ c.maxLocals = 4 ∧ s.vm.findClass R_law = some m.cls ∧ (∀ w ∈ lw_tbl, w.before #[Value.ref b] s = true) ∧ va_X b L xs s s.heap ∧ b < s.heap.size ∧ meth.locks = false ∧ (Jvm.Cond.and given_1 narrow_1).before #[Value.ref b] s = true

/-- a memory at the law's start: nothing is made yet -/
def am_st0 (xs : Nat → Int32) (Ls : Nat) (M : am_M) : Prop := M.1 96 0 = xs ∧ (∀ g, M.2.2.1 g = 0) ∧ M.2.2.2.1 96 0 = Ls ∧ M.2.2.2.2.1 = 0 ∧ M.2.2.2.2.2 = 0
set_option maxRecDepth 100000 in
theorem fl_ex : ∀ i, i < 7 → Cond.exactly (Term.string "CorkBreaks$Reader" (am_sx.getD i 0)) "java/lang/String" ∈ flatC (Jvm.Cond.and given_1 narrow_1) := by decide +kernel
set_option maxRecDepth 100000 in
theorem fl_co : ∀ i, i < 7 → Cond.eq (.field (Term.string "CorkBreaks$Reader" (am_sx.getD i 0)) "java/lang/String" "coder" "B") (.int 0) ∈ flatC (Jvm.Cond.and given_1 narrow_1) := by decide +kernel
set_option maxRecDepth 100000 in
theorem fl_ar : ∀ i, i < 7 → Cond.arrayOf (.field (Term.string "CorkBreaks$Reader" (am_sx.getD i 0)) "java/lang/String" "value" "[B") .byte ∈ flatC (Jvm.Cond.and given_1 narrow_1) := by decide +kernel
set_option maxRecDepth 100000 in
theorem fl_le : ∀ i, i < 7 → Cond.eq (.length (.field (Term.string "CorkBreaks$Reader" (am_sx.getD i 0)) "java/lang/String" "value" "[B")) (.int (Int32.ofNat ((am_c99.map List.length).getD i 0))) ∈ flatC (Jvm.Cond.and given_1 narrow_1) := by decide +kernel
set_option maxRecDepth 100000 in
theorem fl_el : ∀ i, i < 7 → ∀ j, j < (am_c99.map List.length).getD i 0 → Cond.eq (.elem (.field (Term.string "CorkBreaks$Reader" (am_sx.getD i 0)) "java/lang/String" "value" "[B") (.int (Int32.ofNat j))) (.int ((am_c99.getD i []).getD j 0)) ∈ flatC (Jvm.Cond.and given_1 narrow_1) := by decide +kernel
set_option maxRecDepth 100000 in
theorem fl_ne : ∀ i, i < 7 → ∀ j, j < 7 → i ≠ j → Cond.not (Cond.eq (Term.string "CorkBreaks$Reader" (am_sx.getD i 0)) (Term.string "CorkBreaks$Reader" (am_sx.getD j 0))) ∈ flatC (Jvm.Cond.and given_1 narrow_1) ∨ Cond.not (Cond.eq (Term.string "CorkBreaks$Reader" (am_sx.getD j 0)) (Term.string "CorkBreaks$Reader" (am_sx.getD i 0))) ∈ flatC (Jvm.Cond.and given_1 narrow_1) := by decide +kernel
set_option maxRecDepth 100000 in
theorem fl_s97 : Cond.arrayOf (.static "CorkBreaks" "ABOVE" "[I") .int ∈ flatC (Jvm.Cond.and given_1 narrow_1) ∧ Cond.eq (.length (.static "CorkBreaks" "ABOVE" "[I")) (.int (Int32.ofNat 6)) ∈ flatC (Jvm.Cond.and given_1 narrow_1) ∧ ∀ j, j < 6 → Cond.eq (.elem (.static "CorkBreaks" "ABOVE" "[I") (.int (Int32.ofNat j))) (.int (am_c97.getD j 0)) ∈ flatC (Jvm.Cond.and given_1 narrow_1) := by decide +kernel
set_option maxRecDepth 100000 in
theorem fl_s98 : Cond.arrayOf (.static "CorkBreaks$Reader" "LEVELS" "[I") .int ∈ flatC (Jvm.Cond.and given_1 narrow_1) ∧ Cond.eq (.length (.static "CorkBreaks$Reader" "LEVELS" "[I")) (.int (Int32.ofNat 9)) ∈ flatC (Jvm.Cond.and given_1 narrow_1) ∧ ∀ j, j < 9 → Cond.eq (.elem (.static "CorkBreaks$Reader" "LEVELS" "[I") (.int (Int32.ofNat j))) (.int (am_c98.getD j 0)) ∈ flatC (Jvm.Cond.and given_1 narrow_1) := by decide +kernel
set_option maxRecDepth 100000 in
theorem fl_cs : Cond.eq (.static "java/lang/String" "COMPACT_STRINGS" "Z") (.int 1) ∈ flatC (Jvm.Cond.and given_1 narrow_1) ∧ Cond.isRef (.static "jdk/internal/util/Preconditions" "SIOOBE_FORMATTER" "Ljava/util/function/BiFunction;") ∈ flatC (Jvm.Cond.and given_1 narrow_1) := by decide +kernel
set_option maxRecDepth 100000 in
theorem fl_ao : ∀ g, 80 ≤ g → g ≤ 83 → Cond.arrayOver (.object (am_R (am_ge g))) ∈ lw_tbl := by
  intro g h1 h2
  rcases (show g = 80 ∨ g = 81 ∨ g = 82 ∨ g = 83 by omega) with rfl | rfl | rfl | rfl
  · exact List.mem_of_getElem? (i := 88) (by decide +kernel)
  · exact List.mem_of_getElem? (i := 136) (by decide +kernel)
  · exact List.mem_of_getElem? (i := 252) (by decide +kernel)
  · exact List.mem_of_getElem? (i := 272) (by decide +kernel)
set_option maxRecDepth 100000 in
theorem fl_nst : ∀ i, i ≤ 2 → Cond.methodLinkNest (am_ns i).1 (am_ns i).2.1 (am_y (am_ns i).2.2) "CorkBreaks" ∈ lw_tbl := by
  intro i h
  rcases (show i = 0 ∨ i = 1 ∨ i = 2 by omega) with rfl | rfl | rfl
  · exact List.mem_of_getElem? (i := 391) (by decide +kernel)
  · exact List.mem_of_getElem? (i := 512) (by decide +kernel)
  · exact List.mem_of_getElem? (i := 583) (by decide +kernel)
def am_wR : List Nat := [633, 686, 687, 712, 713, 714, 786]
set_option maxRecDepth 100000 in
theorem fl_srd : (List.range 7).all (fun i => am_wd (am_wR.getD i 0) (.stringRef "CorkBreaks$Reader" (am_sx.getD i 0) (am_st7.getD i ""))) = true := by decide +kernel
theorem fl_sr (i : Nat) (h : i < 7) : Cond.stringRef "CorkBreaks$Reader" (am_sx.getD i 0) (am_st7.getD i "") ∈ lw_tbl := by
  have h1 := List.all_eq_true.mp fl_srd i (List.mem_range.mpr h)
  unfold am_wd at h1
  exact List.mem_of_getElem? (of_decide_eq_true h1)
set_option maxRecDepth 100000 in
theorem fl_ls : Cond.laysStatic "CorkBreaks" "ABOVE" "[I" ∈ lw_tbl ∧ Cond.laysStatic "CorkBreaks$Reader" "LEVELS" "[I" ∈ lw_tbl ∧ Cond.laysStatic "java/lang/String" "COMPACT_STRINGS" "Z" ∈ lw_tbl ∧ Cond.laysStatic "jdk/internal/util/Preconditions" "SIOOBE_FORMATTER" "Ljava/util/function/BiFunction;" ∈ lw_tbl := ⟨List.mem_of_getElem? (i := 412) (by decide +kernel), List.mem_of_getElem? (i := 788) (by decide +kernel), List.mem_of_getElem? (i := 647) (by decide +kernel), List.mem_of_getElem? (i := 663) (by decide +kernel)⟩
set_option maxRecDepth 100000 in
theorem fl_in : Cond.initialized "CorkBreaks" ∈ lw_tbl ∧ Cond.initialized "CorkBreaks$Reader" ∈ lw_tbl ∧ Cond.initialized "java/lang/String" ∈ lw_tbl ∧ Cond.initialized "jdk/internal/util/Preconditions" ∈ lw_tbl ∧ Cond.arrayClass .int ∈ lw_tbl := ⟨List.mem_of_getElem? (i := 57) (by decide +kernel), List.mem_of_getElem? (i := 61) (by decide +kernel), List.mem_of_getElem? (i := 68) (by decide +kernel), List.mem_of_getElem? (i := 70) (by decide +kernel), List.mem_of_getElem? (i := 134) (by decide +kernel)⟩
set_option maxHeartbeats 4000000 in
/-- the law's walk out of a run of the abstract machine -/
theorem am_start {p : Program} {e : Env} {s : State} {m : MethodId} {below : List Frame} {meth : Method} {c : Code} (l : Launch) {b L : Nat} {xs : Nat → Int32} (C0 : lw_At p s m meth c b L xs) {M0 : am_M} (hM0 : am_st0 xs L M0) (hp : ∃ (n : Nat) (M' : am_M), am_run n [am_entry 0 [.inr (.inr (some (96, 0)))]] 1000 M0 = some (some (.inl 1), M') ∧ M'.2.2.2.2.1 ≤ 600000 ∧ M'.2.2.2.2.2 ≤ 7302250) :
    W p l e room_1 s m #[Value.ref b] below meth c s.heap [] 0 0 (lw_Z below #[Value.ref b] s) (entryFrame m ([Value.ref b] : List Value).toArray 4) := by
  obtain ⟨hx, hb, hr, hml, hown, hts, hX, hbl, hlk, hgv⟩ := C0
  obtain ⟨n, M', hrun, hc9, hs9⟩ := hp
  have hflat := flat_of_before _ hgv
  have hgw : ∀ w ∈ am_gw, w.before #[Value.ref b] s = true := fun w hw => hts w (List.mem_filter.mp hw).1
  have hA : ∀ a : Nat, a < s.heap.size → ¬ (fun q => s.heap.size ≤ q) a := fun a h => by show ¬ s.heap.size ≤ a; omega
  have hcls : ∀ k : Nat, ∃ z : ClassId × (Nat → Nat), k ≤ 8 → u_Kn s (am_R k) (am_T k) (am_N k) z.1 z.2 := by
    intro k
    by_cases hk : k ≤ 8
    · obtain ⟨cC, iS, h⟩ := u_known (T := am_T k) (N := am_N k) hgw (am_uws hk) (hgw _ (am_gw_in (am_wK_ok hk).1 rfl))
      exact ⟨(cC, iS), fun _ => h⟩
    · exact ⟨(0, fun _ => 0), fun h => absurd h hk⟩
  obtain ⟨zf, hzf⟩ := Classical.axiomOfChoice hcls
  obtain ⟨cI, kI, cmI, i1, i2, i3⟩ := Cond.arrayClass_spec (hts _ fl_in.2.2.2.2)
  have harr : ∀ g : Nat, ∃ cA : ClassId, 80 ≤ g → g ≤ 83 → ArrOfT s cA (.object (am_R (am_ge g))) ∧ va_RA s cA (.object (am_R (am_ge g))) := by
    intro g
    by_cases hg : 80 ≤ g ∧ g ≤ 83
    · obtain ⟨comp, cA, kA, a1, -, a3, a4, a5⟩ := Cond.arrayOver_spec (hts _ (fl_ao g hg.1 hg.2))
      exact ⟨cA, fun _ _ => ⟨fun N z => ⟨(fun k h => by cases h), kA, a3, comp, a4⟩, kA, comp, a3, a4, a1, a5⟩⟩
    · exact ⟨0, fun h1 h2 => absurd ⟨h1, h2⟩ hg⟩
  obtain ⟨zg, hzg⟩ := Classical.axiomOfChoice harr
  obtain ⟨adK, adV, hSt, hev⟩ := vk_Sof (args := #[Value.ref b]) (s := s) (N := 7) (tm := fun i => (Term.string "CorkBreaks$Reader" (am_sx.getD i 0))) (len := am_c99.map List.length) (byt := am_c99) (A := fun q => s.heap.size ≤ q) (by decide) (fun i hi => hflat _ (fl_ex i hi)) (fun i hi => hflat _ (fl_co i hi)) (fun i hi => hflat _ (fl_ar i hi)) (fun i hi => hflat _ (fl_le i hi)) (fun i hi j hj => hflat _ (fl_el i hi j hj)) (fun i j hi hj hij => (fl_ne i hi j hj hij).imp (hflat _) (hflat _)) hA
  obtain ⟨t97, e97, hT97⟩ := va_Tof (N := 6) (f := fun j => .int (am_c97.getD j 0)) (A := fun q => s.heap.size ≤ q) (by decide) (hflat _ fl_s97.1) (va_eqt (hflat _ fl_s97.2.1)) (fun j hj => va_eqt (hflat _ (fl_s97.2.2 j hj))) hA
  obtain ⟨t98, e98, hT98⟩ := va_Tof (N := 9) (f := fun j => .int (am_c98.getD j 0)) (A := fun q => s.heap.size ≤ q) (by decide) (hflat _ fl_s98.1) (va_eqt (hflat _ fl_s98.2.1)) (fun j hj => va_eqt (hflat _ (fl_s98.2.2 j hj))) hA
  have hZ97 := va_Zof (A := fun q => s.heap.size ≤ q) (hts _ fl_ls.1) (hts _ fl_in.1) e97 hA
  have hZ98 := va_Zof (A := fun q => s.heap.size ≤ q) (hts _ fl_ls.2.1) (hts _ fl_in.2.1) e98 hA
  have hZcs := va_Zof (A := fun q => s.heap.size ≤ q) (hts _ fl_ls.2.2.1) (hts _ fl_in.2.2.1) (va_eqt (hflat _ fl_cs.1)) hA
  have hZfm : ∃ fm : Option Nat, va_Z "jdk/internal/util/Preconditions" "SIOOBE_FORMATTER" "Ljava/util/function/BiFunction;" (va_rf fm) (fun q => s.heap.size ≤ q) s s.heap := by
    rcases va_Zqof (A := fun q => s.heap.size ≤ q) (hts _ fl_ls.2.2.2) (hts _ fl_in.2.2.2.1) (hflat _ fl_cs.2) hA with h | ⟨t, h⟩
    · exact ⟨none, h⟩
    · exact ⟨some t, h⟩
  obtain ⟨fm, hZfm⟩ := hZfm
  have hSc : am_Sc (fun k => (zf k).1, fun k => (zf k).2) (fun k => cond (Nat.beq k 0) cI (cond (Nat.beq k 1) (zg 80) (cond (Nat.beq k 7) (zg 81) (cond (Nat.beq k 5) (zg 82) (zg 83))))) (fun g k => cond (Nat.beq g 96) b (cond (Nat.beq g 97) t97 (cond (Nat.beq g 98) t98 (cond (Nat.beq g 99) (adV k) (adK k))))) fm s.heap.size xs L s s.heap := by
    refine ⟨⟨fun k q hq => ?_, fun k q hq => ?_⟩, fun g h1 h2 => hts _ (fl_ao g h1 h2), fun i hi => va_Nw.of rfl (hts _ (fl_nst i hi)), fun i hi => vk_R.of (hts _ (fl_sr i hi)) (hev i hi), hSt, fun a ha => ?_, hT97, hT98, hZcs, hZfm, hX, hbl⟩
    · have hk : k ≤ 8 := by
        have := (List.getElem?_eq_some_iff.mp hq).1
        simp only [List.length_cons, List.length_nil] at this
        omega
      cases (am_cl_at k hk).symm.trans hq
      exact hzf k hk
    · have hk : k ≤ 4 := by
        have := (List.getElem?_eq_some_iff.mp hq).1
        simp only [am_tys, List.length_cons, List.length_nil] at this
        omega
      rcases (show k = 0 ∨ k = 1 ∨ k = 2 ∨ k = 3 ∨ k = 4 by omega) with rfl | rfl | rfl | rfl | rfl
      · cases hq
        exact ⟨fun N z => ⟨(fun k h => by cases h), kI, i2, cmI, i3⟩, i1⟩
      · cases hq
        exact hzg 80 (by omega) (by omega)
      · cases hq
        exact hzg 81 (by omega) (by omega)
      · cases hq
        exact hzg 82 (by omega) (by omega)
      · cases hq
        exact hzg 83 (by omega) (by omega)
    · rcases (show a = 0 ∨ a = 1 by omega) with rfl | rfl
      · exact hZ97
      · exact hZ98
  generalize hsa : (fun (g k : Nat) => cond (Nat.beq g 96) b (cond (Nat.beq g 97) t97 (cond (Nat.beq g 98) t98 (cond (Nat.beq g 99) (adV k) (adK k))))) = sa at hSc
  have h96 : sa 96 0 = b := by rw [← hsa]; rfl
  have hl := lv_entry ([Value.ref b]) (n := 4) (Nat.le_of_ble_eq_true rfl)
  rw [lg_entry_eq]
  generalize (lg_sl ([Value.ref b]) ++ List.replicate (4 - (lg_sl ([Value.ref b])).length) Slot.unset).toArray = lsC at hl ⊢
  have hl : lv_has lsC 4 [(0, .ref b)] := hl
  have hcv : am_cv sa fm (fun _ _ => 0) (.inr (.inr (some (96, 0)))) = .ref b := by rw [am_cv_x (by omega) (by omega), h96]
  have hLc : am_Lc sa fm 0 (am_pad (am_mx 0) (am_lay [.inr (.inr (some (96, 0)))])) (fun _ _ => 0) [] lsC := by
    refine ⟨am_lvm hl (fun q hq => ?_), fun _ x hx => ?_, fun w hw => ?_⟩
    · have hq : q ∈ [((0 : Nat), am_cv sa fm (fun _ _ => 0) (.inr (.inr (some (96, 0)))))] := hq
      rw [hcv] at hq
      exact hq
    · have := am_lay_mem (am_pad_mem hx)
      simp at this
    · have := am_lay_mem (am_pad_mem hw)
      rw [List.mem_singleton.mp this]
      show am_okr [] (some (96, 0))
      simp [am_okr]
  have hwf : am_wf xs L [] M0 := by
    refine ⟨fun i j q h => (by simp at h), fun g k => ?_, fun g k j r h => (by cases h), hM0.1, hM0.2.2.1⟩
    constructor
    · intro h; cases h
    · rintro ⟨-, h⟩; rw [hM0.2.1] at h; exact absurd h (Nat.not_lt_zero _)
  refine am_sound (l := l) n 0 0 _ [] M0 1000 (some (.inl 1)) M' hrun p e room_1 s m #[Value.ref b] below meth c (lw_Z below #[Value.ref b] s) s.heap [] lsC 0 0 (fun _ _ => 0) [] ⟨⟨hx, hb, hml, hown, hgw, hr, hlk, fun h => by cases h⟩, hSc, ⟨Nat.le_refl _, Nat.le_of_ble_eq_true rfl, Nat.le_of_ble_eq_true rfl, Nat.zero_le _, Nat.zero_le _⟩, ⟨fun k q h => (by cases h), ⟨fun i j x y h => (by cases h), fun k q h => (by cases h)⟩, va_S.rf, hwf⟩, hLc, fun _ h => by cases h⟩ (Nat.le_of_ble_eq_true rfl) (Nat.le_of_ble_eq_true rfl) (by rw [hM0.2.2.2.1]; show 0 + M'.2.2.2.2.1 ≤ 600000 + 0; omega) (by rw [hM0.2.2.2.2]; show 0 + M'.2.2.2.2.2 ≤ 7302250 + 0; omega) ?_
  intro pc1 H1 locs1 lsC1 cells1 slots1 ad1 L1 e1 e2 hxt hWl hrk
  rw [hM0.2.2.2.1] at e1
  rw [hM0.2.2.2.2] at e2
  refine va_forget (fun q hq => hWl.2.2.1.2.2 q hq) ?_
  refine W.widen (k := 600000) (n := 7302250) (by omega) (by omega) ?_
  exact lw_ret hx hb hr hlk hrk.1
