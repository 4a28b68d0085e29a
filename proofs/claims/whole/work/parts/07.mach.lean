/-! THE ABSTRACT MACHINE: a frame is (method, pc, locals, stack); a value is an int, a long, or a reference (group, number); the memory: ints, references, how many of a group, lengths, cells, slots. -/
abbrev am_M : Type := (Nat → Nat → Nat → Int32) × (Nat → Nat → Nat → Option (Nat × Nat)) × (Nat → Nat) × (Nat → Nat → Nat) × Nat × Nat
abbrev am_F : Type := Nat × Nat × List (Option am_V) × List am_V
def am_get : List (Option am_V) → Nat → Option am_V
  | [], _ => none
  | x :: _, 0 => x
  | _ :: l, n + 1 => am_get l n
def am_set : List (Option am_V) → Nat → am_V → List (Option am_V)
  | [], _, _ => []
  | _ :: l, 0, v => some v :: l
  | x :: l, n + 1, v => x :: am_set l n v
def am_pop : Nat → List am_V → List am_V → Option (List am_V × List am_V)
  | 0, st, acc => some (acc, st)
  | n + 1, v :: st, acc => am_pop n st (v :: acc)
  | _ + 1, [], _ => none
def am_cat : am_V → Nat
  | .inl _ => 1
  | .inr (.inl _) => 2
  | .inr (.inr _) => 1
def am_dep : List am_V → Nat
  | [] => 0
  | v :: l => am_cat v + am_dep l
def am_lay : List am_V → List (Option am_V)
  | [] => []
  | .inl x :: l => some (.inl x) :: am_lay l
  | .inr (.inl x) :: l => some (.inr (.inl x)) :: none :: am_lay l
  | .inr (.inr r) :: l => some (.inr (.inr r)) :: am_lay l
def am_pad : Nat → List (Option am_V) → List (Option am_V)
  | 0, _ => []
  | n + 1, [] => none :: am_pad n []
  | n + 1, x :: l => x :: am_pad n l
def am_entry (a : Nat) (as : List am_V) : am_F := (a, 0, am_pad (am_mx a) (am_lay as), [])
def am_sI (M : am_M) (g k j : Nat) (v : Int32) : am_M := (fun g' k' j' => cond (Nat.beq g' g) (if k' = k ∧ j' = j then v else M.1 g' k' j') (M.1 g' k' j'), M.2)
def am_sA (M : am_M) (g k : Nat) (f : Nat → Int32) : am_M := (fun g' k' j' => cond (Nat.beq g' g) (if k' = k then f j' else M.1 g' k' j') (M.1 g' k' j'), M.2)
def am_sR (M : am_M) (g k j : Nat) (v : Option (Nat × Nat)) : am_M := (M.1, fun g' k' j' => cond (Nat.beq g' g) (if k' = k ∧ j' = j then v else M.2.1 g' k' j') (M.2.1 g' k' j'), M.2.2)
/-- one more of group g, of length n: zeros and nulls -/
def am_new (M : am_M) (g n sl : Nat) : am_M :=
  (fun g' k' j' => cond (Nat.beq g' g) (if k' = M.2.2.1 g then 0 else M.1 g' k' j') (M.1 g' k' j'),
   fun g' k' j' => cond (Nat.beq g' g) (if k' = M.2.2.1 g then none else M.2.1 g' k' j') (M.2.1 g' k' j'),
   fun g' => cond (Nat.beq g' g) (M.2.2.1 g + 1) (M.2.2.1 g'),
   fun g' k' => cond (Nat.beq g' g) (if k' = M.2.2.1 g then n else M.2.2.2.1 g' k') (M.2.2.2.1 g' k'),
   M.2.2.2.2.1 + 1, M.2.2.2.2.2 + sl)
/-- the static arrays, the bytes of the String constants -/
def am_c97 : List Int32 := [-1, 0, 0, 1, 2, 0]
def am_c98 : List Int32 := [0, 1, 2, 2, 2, 3, 3, 4, 4]
def am_c99 : List (List Int32) := [[104, 97, 114, 100], [102, 101, 101], [102, 105, 110, 101], [115, 121, 108], [99, 121], [121, 108], [124, 38, 60, 61, 62, 43, 45, 42, 47]]
def am_rdI (M : am_M) (g o j : Nat) : Int32 := cond (Nat.beq g 97) (am_c97.getD j 0) (cond (Nat.beq g 98) (am_c98.getD j 0) (M.1 g o j))
def am_rdL (M : am_M) (g o : Nat) : Nat := cond (Nat.beq g 97) 6 (cond (Nat.beq g 98) 9 (cond (Nat.beq g 99) ((am_c99.getD o []).length) (M.2.2.2.1 g o)))
section
variable {β : Sort _}
def am_i1 (fail : β) (st : List am_V) (k : Int32 → List am_V → β) : β := match st with
  | .inl x :: t => k x t
  | _ => fail
def am_i2 (fail : β) (st : List am_V) (k : Int32 → Int32 → List am_V → β) : β := match st with
  | .inl y :: .inl x :: t => k x y t
  | _ => fail
def am_l1 (fail : β) (st : List am_V) (k : Int64 → List am_V → β) : β := match st with
  | .inr (.inl x) :: t => k x t
  | _ => fail
def am_l2 (fail : β) (st : List am_V) (k : Int64 → Int64 → List am_V → β) : β := match st with
  | .inr (.inl y) :: .inr (.inl x) :: t => k x y t
  | _ => fail
/-- a reference, null or not -/
def am_q1 (fail : β) (st : List am_V) (k : Option (Nat × Nat) → List am_V → β) : β := match st with
  | .inr (.inr r) :: t => k r t
  | _ => fail
def am_r1 (fail : β) (st : List am_V) (k : Nat → Nat → List am_V → β) : β := match st with
  | .inr (.inr (some (g, o))) :: t => k g o t
  | _ => fail
def am_iv (fail : β) (v : Option am_V) (k : Int32 → β) : β := match v with
  | some (.inl x) => k x
  | _ => fail
def am_lv (fail : β) (v : Option am_V) (k : Int64 → β) : β := match v with
  | some (.inr (.inl x)) => k x
  | _ => fail
def am_qv (fail : β) (v : Option am_V) (k : Option (Nat × Nat) → β) : β := match v with
  | some (.inr (.inr x)) => k x
  | _ => fail
def am_op (fail : β) (v : Option (List am_V × List am_V)) (k : List am_V → List am_V → β) : β := match v with
  | some (a, t) => k a t
  | none => fail
/-- null or a cell of our own -/
def am_nl (fail : β) (r : Option (Nat × Nat)) (kn : β) (ks : β) : β := match r with
  | none => kn
  | some (g, _) => cond (Nat.ble g 95) ks fail
/-- what a local may take: null, a cell of our own, a String constant -/
def am_al (fail : β) (r : Option (Nat × Nat)) (k : β) : β := match r with
  | none => k
  | some (g, _) => cond (Nat.ble g 95 || Nat.beq g 100) k fail
def am_nil (fail : β) (st : List am_V) (k : β) : β := match st with
  | [] => k
  | _ => fail
def am_sw (x : Int32) (d : Nat) (k : Nat → β) : List (Int32 × Nat) → β
  | [] => k d
  | (v, t) :: r => if x = v then k t else am_sw x d k r
def am_ifc (c : ClassFile.Cond) (x : Int32) (kt kf : β) : β := match c with
  | .eq => if x = 0 then kt else kf
  | .ne => if x = 0 then kf else kt
  | .lt => if x < 0 then kt else kf
  | .ge => if 0 ≤ x then kt else kf
  | .gt => if 0 < x then kt else kf
  | .le => if x ≤ 0 then kt else kf
def am_icm (c : ClassFile.Cond) (x y : Int32) (kt kf : β) : β := match c with
  | .eq => if x = y then kt else kf
  | .ne => if x = y then kf else kt
  | .lt => if x < y then kt else kf
  | .ge => if y ≤ x then kt else kf
  | .gt => if y < x then kt else kf
  | .le => if x ≤ y then kt else kf
/-- a method's call: its arguments off the stack; not static: its receiver is a cell of its class -/
def am_cl1 (fail : β) (call : am_F → am_F → am_M → β) (mid nx : Nat) (ls : List (Option am_V)) (st : List am_V) (M : am_M) (a : Nat) : β :=
  am_op fail (am_pop (am_na a) st []) (fun as t => cond (Nat.ble (am_dep t) 8 && Nat.ble (am_dep as) (am_mx a) && (am_hl a || Nat.beq (am_dep as) (am_na a))) (cond (am_ss a) (call (am_entry a as) (mid, nx, ls, t) M) (am_r1 fail as (fun g _ _ => cond (Nat.beq g (am_ci a)) (call (am_entry a as) (mid, nx, ls, t) M) fail))) fail)
def am_inv (fail : β) (cont : am_F → am_M → β) (call : am_F → am_F → am_M → β) (mid nx : Nat) (ls : List (Option am_V)) (st : List am_V) (M : am_M) (a b : Nat) : β :=
  match b with
  | 0 => am_cl1 fail call mid nx ls st M a
  | 5 => am_cl1 fail call mid nx ls st M a
  | 1 => am_i2 fail st (fun x y t => cond (Nat.ble (am_dep t) 8) (cont (mid, nx, ls, .inl (if x < y then y else x) :: t) M) fail)
  | 2 => am_i2 fail st (fun x y t => cond (Nat.ble (am_dep t) 8) (cont (mid, nx, ls, .inl (if y < x then y else x) :: t) M) fail)
  | 3 => am_i1 fail st (fun x t => cond (Nat.ble (am_dep t) 8) (cont (mid, nx, ls, .inl (if 0 ≤ x then x else 0 - x) :: t) M) fail)
  | 4 => am_i2 fail st (fun dp n t => am_r1 fail t (fun gd od t => am_i1 fail t (fun sp t => am_r1 fail t (fun gs os t =>
      cond (Nat.ble (am_dep t) 8 && Nat.ble 16 gd && Nat.ble gd 79 && Nat.ble 16 gs && Nat.ble gs 79)
        (if ¬ sp < 0 ∧ ¬ dp < 0 ∧ ¬ n < 0 ∧ sp.toNatClampNeg + n.toNatClampNeg ≤ M.2.2.2.1 gs os ∧ dp.toNatClampNeg + n.toNatClampNeg ≤ M.2.2.2.1 gd od then
          cont (mid, nx, ls, t) (am_sA M gd od (va_cpy (M.1 gs os) (M.1 gd od) sp.toNatClampNeg dp.toNatClampNeg n.toNatClampNeg)) else fail) fail))))
  | 9 => am_r1 fail st (fun g _ t => cond (Nat.ble (am_dep t) 8 && Nat.ble g 95) (cont (mid, nx, ls, t) M) fail)
  | _ => fail
def am_gst (fail : β) (cont : am_F → am_M → β) (mid nx : Nat) (ls : List (Option am_V)) (st : List am_V) (M : am_M) (a : Nat) : β :=
  match a with
  | 0 => cont (mid, nx, ls, .inr (.inr (some (97, 0))) :: st) M
  | 1 => cont (mid, nx, ls, .inr (.inr (some (98, 0))) :: st) M
  | 2 => cont (mid, nx, ls, .inl 1 :: st) M
  | 3 => cont (mid, nx, ls, .inr (.inr (some (101, 0))) :: st) M
  | _ => fail
def am_put (fail : β) (cont : am_F → am_M → β) (mid nx : Nat) (ls : List (Option am_V)) (st : List am_V) (M : am_M) (a b c : Nat) : β :=
  match b with
  | 0 => am_i1 fail st (fun x t => am_r1 fail t (fun g o t => cond (Nat.beq g c) (cont (mid, nx, ls, t) (am_sI M c o a x)) fail))
  | 1 => am_q1 fail st (fun r t => am_r1 fail t (fun g o t => cond (Nat.beq g c) (am_nl fail r (cont (mid, nx, ls, t) (am_sR M c o a r)) (cont (mid, nx, ls, t) (am_sR M c o a r))) fail))
  | 2 => am_i1 fail st (fun x t => am_r1 fail t (fun g o t => cond (Nat.beq g c) (if x = 0 ∨ x = 1 then cont (mid, nx, ls, t) (am_sI M c o a x) else fail) fail))
  | _ => fail
def am_gtf (fail : β) (cont : am_F → am_M → β) (mid nx : Nat) (ls : List (Option am_V)) (st : List am_V) (M : am_M) (a b c : Nat) : β :=
  am_r1 fail st (fun g o t => cond (Nat.beq g c) (cond (Nat.beq c 100) (cond (Nat.beq a 0) (cont (mid, nx, ls, .inr (.inr (some (99, o))) :: t) M) (cont (mid, nx, ls, .inl 0 :: t) M))
    (cond (Nat.beq b 1) (cont (mid, nx, ls, .inr (.inr (M.2.1 c o a)) :: t) M) (cont (mid, nx, ls, .inl (M.1 c o a) :: t) M))) fail)
def am_irt (fail : β) (ret : Option am_V → am_M → β) (mid : Nat) (st : List am_V) (M : am_M) : β :=
  am_i1 fail st (fun x t => am_nil fail t (match am_rk mid with
    | 1 => ret (some (.inl x)) M
    | 2 => if x &&& 1 = x then ret (some (.inl x)) M else fail
    | 3 => if x.toUInt32.toUInt16.toUInt32.toInt32 = x then ret (some (.inl x)) M else fail
    | 4 => if x.toInt8.toInt32 = x then ret (some (.inl x)) M else fail
    | _ => fail))
def am_ins (fail : β) (cont jmp : am_F → am_M → β) (call : am_F → am_F → am_M → β) (ret : Option am_V → am_M → β) (mid pc : Nat) (ls : List (Option am_V)) (st : List am_V) (M : am_M) (ins : Instr) (nx a b c : Nat) (k : Int32) (sw : List (Int32 × Nat)) : β :=
  match ins with
  | .iconst _ => cont (mid, nx, ls, .inl k :: st) M
  | .bipush _ => cont (mid, nx, ls, .inl k :: st) M
  | .sipush _ => cont (mid, nx, ls, .inl k :: st) M
  | .ldc _ => cond (Nat.beq b 1) (cont (mid, nx, ls, .inr (.inr (some (100, a))) :: st) M) (cont (mid, nx, ls, .inl k :: st) M)
  | .ldc_w _ => cont (mid, nx, ls, .inl k :: st) M
  | .lconst _ => cont (mid, nx, ls, .inr (.inl k.toInt64) :: st) M
  | .ldc2_w _ => cont (mid, nx, ls, .inr (.inl k.toInt64) :: st) M
  | .aconst_null => cont (mid, nx, ls, .inr (.inr none) :: st) M
  | .iload_n _ => am_iv fail (am_get ls a) (fun x => cont (mid, nx, ls, .inl x :: st) M)
  | .iload _ => am_iv fail (am_get ls a) (fun x => cont (mid, nx, ls, .inl x :: st) M)
  | .lload_n _ => am_lv fail (am_get ls a) (fun x => cont (mid, nx, ls, .inr (.inl x) :: st) M)
  | .lload _ => am_lv fail (am_get ls a) (fun x => cont (mid, nx, ls, .inr (.inl x) :: st) M)
  | .aload_n _ => am_qv fail (am_get ls a) (fun x => cont (mid, nx, ls, .inr (.inr x) :: st) M)
  | .aload _ => am_qv fail (am_get ls a) (fun x => cont (mid, nx, ls, .inr (.inr x) :: st) M)
  | .istore_n _ => cond (am_hl mid) fail (am_i1 fail st (fun x t => cont (mid, nx, am_set ls a (.inl x), t) M))
  | .istore _ => cond (am_hl mid) fail (am_i1 fail st (fun x t => cont (mid, nx, am_set ls a (.inl x), t) M))
  | .astore_n _ => cond (am_hl mid) fail (am_q1 fail st (fun r t => am_al fail r (cont (mid, nx, am_set ls a (.inr (.inr r)), t) M)))
  | .astore _ => cond (am_hl mid) fail (am_q1 fail st (fun r t => am_al fail r (cont (mid, nx, am_set ls a (.inr (.inr r)), t) M)))
  | .iinc _ _ => cond (am_hl mid) fail (am_iv fail (am_get ls a) (fun x => cont (mid, nx, am_set ls a (.inl (x + k)), st) M))
  | .iadd => am_i2 fail st (fun x y t => cont (mid, nx, ls, .inl (x + y) :: t) M)
  | .isub => am_i2 fail st (fun x y t => cont (mid, nx, ls, .inl (x - y) :: t) M)
  | .imul => am_i2 fail st (fun x y t => cont (mid, nx, ls, .inl (x * y) :: t) M)
  | .idiv => am_i2 fail st (fun x y t => if y = 0 then fail else cont (mid, nx, ls, .inl (x / y) :: t) M)
  | .irem => am_i2 fail st (fun x y t => if y = 0 then fail else cont (mid, nx, ls, .inl (x - x / y * y) :: t) M)
  | .iand => am_i2 fail st (fun x y t => cont (mid, nx, ls, .inl (x &&& y) :: t) M)
  | .ior => am_i2 fail st (fun x y t => cont (mid, nx, ls, .inl (x ||| y) :: t) M)
  | .ishl => am_i2 fail st (fun x y t => cont (mid, nx, ls, .inl (x <<< (y &&& 31)) :: t) M)
  | .ishr => am_i2 fail st (fun x y t => cont (mid, nx, ls, .inl (x >>> (y &&& 31)) :: t) M)
  | .iushr => am_i2 fail st (fun x y t => cont (mid, nx, ls, .inl ((x.toUInt32 >>> (y.toUInt32 &&& Int32.toUInt32 31)).toInt32) :: t) M)
  | .ineg => am_i1 fail st (fun x t => cont (mid, nx, ls, .inl (-x) :: t) M)
  | .i2s => am_i1 fail st (fun x t => cont (mid, nx, ls, .inl x.toInt16.toInt32 :: t) M)
  | .i2c => am_i1 fail st (fun x t => cont (mid, nx, ls, .inl (x.toUInt32 % 65536).toInt32 :: t) M)
  | .i2b => am_i1 fail st (fun x t => cont (mid, nx, ls, .inl x.toInt8.toInt32 :: t) M)
  | .i2l => am_i1 fail st (fun x t => cont (mid, nx, ls, .inr (.inl x.toInt64) :: t) M)
  | .ladd => am_l2 fail st (fun x y t => cont (mid, nx, ls, .inr (.inl (x + y)) :: t) M)
  | .lcmp => am_l2 fail st (fun x y t => cont (mid, nx, ls, .inl (lg_cmp x y) :: t) M)
  | .dup => am_r1 fail st (fun g o t => cont (mid, nx, ls, .inr (.inr (some (g, o))) :: .inr (.inr (some (g, o))) :: t) M)
  | .dup2 => am_i1 fail st (fun x t => am_r1 fail t (fun g o t => cont (mid, nx, ls, .inl x :: .inr (.inr (some (g, o))) :: .inl x :: .inr (.inr (some (g, o))) :: t) M))
  | .pop => am_i1 fail st (fun _ t => cont (mid, nx, ls, t) M)
  | .goto _ => cond (Nat.ble a pc) (jmp (mid, a, ls, st) M) (cont (mid, a, ls, st) M)
  | .ifCond cn _ => am_i1 fail st (fun x t => am_ifc cn x (cond (Nat.ble a pc) (jmp (mid, a, ls, t) M) (cont (mid, a, ls, t) M)) (cont (mid, nx, ls, t) M))
  | .if_icmp cn _ => am_i2 fail st (fun x y t => am_icm cn x y (cond (Nat.ble a pc) (jmp (mid, a, ls, t) M) (cont (mid, a, ls, t) M)) (cont (mid, nx, ls, t) M))
  | .ifnull _ => am_q1 fail st (fun r t => am_nl fail r (cont (mid, a, ls, t) M) (cont (mid, nx, ls, t) M))
  | .ifnonnull _ => am_q1 fail st (fun r t => am_nl fail r (cont (mid, nx, ls, t) M) (cont (mid, a, ls, t) M))
  | .tableswitch _ _ _ _ => am_i1 fail st (fun x t => am_sw x a (fun tg => cont (mid, tg, ls, t) M) sw)
  | .lookupswitch _ _ => am_i1 fail st (fun x t => am_sw x a (fun tg => cont (mid, tg, ls, t) M) sw)
  | .getfield _ => am_gtf fail cont mid nx ls st M a b c
  | .putfield _ => am_put fail cont mid nx ls st M a b c
  | .getstatic _ => am_gst fail cont mid nx ls st M a
  | .iaload => am_i1 fail st (fun i t => am_r1 fail t (fun g o t => cond (Nat.ble 16 g && (Nat.ble g 79 || (Nat.ble 96 g && Nat.ble g 98))) (if i < 0 ∨ am_rdL M g o ≤ i.toNatClampNeg then fail else cont (mid, nx, ls, .inl (am_rdI M g o i.toNatClampNeg) :: t) M) fail))
  | .baload => am_i1 fail st (fun i t => am_r1 fail t (fun g o t => cond (Nat.beq g 99) (if i < 0 ∨ (am_c99.getD o []).length ≤ i.toNatClampNeg then fail else cont (mid, nx, ls, .inl ((am_c99.getD o []).getD i.toNatClampNeg 0) :: t) M) fail))
  | .iastore => am_i2 fail st (fun i x t => am_r1 fail t (fun g o t => cond (Nat.ble 16 g && Nat.ble g 79) (if i < 0 ∨ M.2.2.2.1 g o ≤ i.toNatClampNeg then fail else cont (mid, nx, ls, t) (am_sI M g o i.toNatClampNeg x)) fail))
  | .aaload => am_i1 fail st (fun i t => am_r1 fail t (fun g o t => cond (Nat.ble 80 g && Nat.ble g 83) (if i < 0 ∨ M.2.2.2.1 g o ≤ i.toNatClampNeg then fail else cont (mid, nx, ls, .inr (.inr (M.2.1 g o i.toNatClampNeg)) :: t) M) fail))
  | .aastore => am_r1 fail st (fun gr kr t => am_i1 fail t (fun i t => am_r1 fail t (fun g o t => cond (Nat.ble 80 g && Nat.ble g 83 && Nat.beq gr (am_ge g)) (if i < 0 ∨ M.2.2.2.1 g o ≤ i.toNatClampNeg then fail else cont (mid, nx, ls, t) (am_sR M g o i.toNatClampNeg (some (gr, kr)))) fail)))
  | .arraylength => am_r1 fail st (fun g o t => cond (Nat.ble 16 g && (Nat.ble g 79 || (Nat.ble 96 g && Nat.ble g 99))) (cont (mid, nx, ls, .inl (Int32.ofNat (am_rdL M g o)) :: t) M) fail)
  | .new _ => cond (Nat.ble a 8) (cont (mid, nx, ls, .inr (.inr (some (a, M.2.2.1 a))) :: st) (am_new M a 0 (am_N a))) fail
  | .newarray _ => am_i1 fail st (fun n t => cond (Nat.ble 16 a && Nat.ble a 79) (if n < 0 ∨ 536870912 < n.toNatClampNeg * 4 then fail else cont (mid, nx, ls, .inr (.inr (some (a, M.2.2.1 a))) :: t) (am_new M a n.toNatClampNeg n.toNatClampNeg)) fail)
  | .anewarray _ => am_i1 fail st (fun n t => cond (Nat.ble 80 a && Nat.ble a 83) (if n < 0 ∨ 536870912 < n.toNatClampNeg * 4 then fail else cont (mid, nx, ls, .inr (.inr (some (a, M.2.2.1 a))) :: t) (am_new M a n.toNatClampNeg n.toNatClampNeg)) fail)
  | .invokevirtual _ => am_inv fail cont call mid nx ls st M a b
  | .invokestatic _ => am_inv fail cont call mid nx ls st M a b
  | .invokespecial _ => am_inv fail cont call mid nx ls st M a b
  | .ireturn => am_irt fail ret mid st M
  | .areturn => am_q1 fail st (fun r t => am_nil fail t (cond (Nat.beq (am_rk mid) 5) (ret (some (.inr (.inr r))) M) fail))
  | .return_ => am_nil fail st (cond (Nat.beq (am_rk mid) 0) (ret none M) fail)
  | _ => fail
def am_st (fail : β) (cont jmp : am_F → am_M → β) (call : am_F → am_F → am_M → β) (ret : Option am_V → am_M → β) (f : am_F) (M : am_M) : β :=
  match f with
  | (mid, pc, ls, st) => match am_code mid pc with
    | none => fail
    | some (ins, nx, a, b, c, _, k, sw) => am_ins fail cont jmp call ret mid pc ls st M ins nx a b c k sw
end
/-- what a step comes to: the same frame on, a call (callee, caller), a return -/
abbrev am_Y : Type := (Bool × am_F × am_M) ⊕ ((am_F × am_F × am_M) ⊕ (Option am_V × am_M))
def am_fn (f : am_F) (M : am_M) : Option am_Y := am_st none (fun f M => some (.inl (true, f, M))) (fun f M => some (.inl (false, f, M))) (fun e f M => some (.inr (.inl (e, f, M)))) (fun v M => some (.inr (.inr (v, M)))) f M
def am_psh (f : am_F) (v : Option am_V) : am_F := match f with
  | (mid, pc, ls, st) => (mid, pc, ls, v.toList ++ st)
def am_run : Nat → List am_F → Nat → am_M → Option (Option am_V × am_M)
  | 0, _, _, _ => none
  | _ + 1, [], _, _ => none
  | n + 1, f :: fs, d, M => match am_fn f M with
    | none => none
    | some (.inl (_, f', M')) => am_run n (f' :: fs) d M'
    | some (.inr (.inl (e, f', M'))) => (match d with
      | 0 => none
      | d + 1 => am_run n (e :: f' :: fs) d M')
    | some (.inr (.inr (v, M'))) => (match fs with
      | [] => some (v, M')
      | g :: gs => am_run n (am_psh g v :: gs) (d + 1) M')
/-- the run comes to an end with Q -/
def am_WP (fs : List am_F) (d : Nat) (M : am_M) (Q : Option am_V → am_M → Prop) : Prop := ∃ (n : Nat) (v : Option am_V) (M' : am_M), am_run n fs d M = some (v, M') ∧ Q v M'
def am_call (fs : List am_F) (d : Nat) (Q : Option am_V → am_M → Prop) (e f : am_F) (M : am_M) : Prop := match d with
  | 0 => False
  | d + 1 => am_WP (e :: f :: fs) d M Q
def am_ret (fs : List am_F) (d : Nat) (Q : Option am_V → am_M → Prop) (v : Option am_V) (M : am_M) : Prop := match fs with
  | [] => Q v M
  | g :: gs => am_WP (am_psh g v :: gs) (d + 1) M Q
/-- k steps in the top frame; a call, a return, a jump back go out to am_WP -/
def am_wk (fs : List am_F) (d : Nat) (Q : Option am_V → am_M → Prop) : Nat → am_F → am_M → Prop
  | 0, f, M => am_WP (f :: fs) d M Q
  | k + 1, f, M => am_st False (fun f' M' => am_wk fs d Q k f' M') (fun f' M' => am_WP (f' :: fs) d M' Q) (fun e f' M' => am_call fs d Q e f' M') (fun v M' => am_ret fs d Q v M') f M
