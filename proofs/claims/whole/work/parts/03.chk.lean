/-! WHAT AN ENTRY OF THE TABLES MUST BE: decoded so, linked so by the words of lw_tbl -/
def am_ln : Instr → Nat
  | .iconst _ => 1 | .bipush _ => 2 | .sipush _ => 3 | .ldc _ => 2 | .ldc_w _ => 3 | .lconst _ => 1 | .ldc2_w _ => 3 | .aconst_null => 1
  | .iload_n _ => 1 | .iload _ => 2 | .lload_n _ => 1 | .lload _ => 2 | .aload_n _ => 1 | .aload _ => 2 | .istore_n _ => 1 | .istore _ => 2 | .astore_n _ => 1 | .astore _ => 2 | .iinc _ _ => 3
  | .iadd => 1 | .isub => 1 | .imul => 1 | .idiv => 1 | .irem => 1 | .iand => 1 | .ior => 1 | .ishl => 1 | .ishr => 1 | .iushr => 1 | .ineg => 1 | .i2s => 1 | .i2c => 1 | .i2b => 1 | .i2l => 1 | .ladd => 1 | .lcmp => 1
  | .dup => 1 | .dup2 => 1 | .pop => 1 | .goto _ => 3 | .ifCond _ _ => 3 | .if_icmp _ _ => 3 | .ifnull _ => 3 | .ifnonnull _ => 3
  | .getfield _ => 3 | .putfield _ => 3 | .getstatic _ => 3 | .iaload => 1 | .baload => 1 | .iastore => 1 | .aaload => 1 | .aastore => 1 | .arraylength => 1
  | .new _ => 3 | .newarray _ => 2 | .anewarray _ => 3 | .invokevirtual _ => 3 | .invokestatic _ => 3 | .invokespecial _ => 3 | .ireturn => 1 | .areturn => 1 | .return_ => 1 | _ => 0
/-- the nest mates' calls -/
def am_ns : Nat → String × Nat × Nat
  | 0 => ("CorkBreaks$Cellar", 95, mX7_heldWithin)
  | 1 => ("CorkBreaks$Neck", 61, mX7_isFewer)
  | _ => ("CorkBreaks$Row", 28, mX7_within)
def am_sf : Nat → String × String × String
  | 0 => ("CorkBreaks", "ABOVE", "[I")
  | 1 => ("CorkBreaks$Reader", "LEVELS", "[I")
  | 2 => ("java/lang/String", "COMPACT_STRINGS", "Z")
  | _ => ("jdk/internal/util/Preconditions", "SIOOBE_FORMATTER", "Ljava/util/function/BiFunction;")
def am_gf : Nat → String × String × String
  | 0 => ("java/lang/String", "value", "[B")
  | _ => ("java/lang/String", "coder", "B")
def am_wd (w : Nat) (c : Cond) : Bool := decide (lw_tbl[w]? = some c)
def am_swT (pc : Nat) : Int → List Int → List (Int32 × Nat) → Bool
  | _, [], [] => true
  | lo, o :: os, (v, t) :: r => decide (v.toInt = lo) && decide ((pc : Int) + o = (t : Int)) && am_swT pc (lo + 1) os r
  | _, _, _ => false
def am_swL (pc : Nat) : List (Int × Int) → List (Int32 × Nat) → Bool
  | [], [] => true
  | (x, o) :: os, (v, t) :: r => decide (v.toInt = x) && decide ((pc : Int) + o = (t : Int)) && am_swL pc os r
  | _, _ => false
def am_ckX (mid pc : Nat) (ins : Instr) (a b c w : Nat) (k : Int32) (sw : List (Int32 × Nat)) : Bool := match ins with
  | .iconst n => decide (Int32.ofInt n = k)
  | .bipush n => decide ((Int8.ofInt n).toInt32 = k)
  | .sipush n => decide ((Int16.ofInt n).toInt32 = k)
  | .ldc i => cond (Nat.beq b 1) (Nat.ble a 6 && Nat.beq (am_sx.getD a 0) i && decide (am_own mid = "CorkBreaks$Reader")) (am_wd w (.constant (am_own mid) i k))
  | .ldc_w i => am_wd w (.constant (am_own mid) i k)
  | .lconst n => decide (Int64.ofNat n = k.toInt64)
  | .ldc2_w i => am_wd w (.constantLong (am_own mid) i k.toInt64)
  | .iload_n n => Nat.beq n.val a
  | .lload_n n => Nat.beq n.val a
  | .aload_n n => Nat.beq n.val a
  | .iload n => Nat.beq n a
  | .lload n => Nat.beq n a
  | .aload n => Nat.beq n a
  | .istore_n n => Nat.beq n.val a && Nat.ble (a + 1) (am_mx mid)
  | .astore_n n => Nat.beq n.val a && Nat.ble (a + 1) (am_mx mid)
  | .istore n => Nat.beq n a && Nat.ble (a + 1) (am_mx mid)
  | .astore n => Nat.beq n a && Nat.ble (a + 1) (am_mx mid)
  | .iinc i n => Nat.beq i a && Nat.ble (a + 1) (am_mx mid) && decide (Int32.ofInt n = k)
  | .goto o => decide ((pc : Int) + o = (a : Int))
  | .ifCond _ o => decide ((pc : Int) + o = (a : Int))
  | .if_icmp _ o => decide ((pc : Int) + o = (a : Int))
  | .ifnull o => decide ((pc : Int) + o = (a : Int))
  | .ifnonnull o => decide ((pc : Int) + o = (a : Int))
  | .tableswitch d lo hi offs => decide ((pc : Int) + d = (a : Int)) && decide (lo + offs.toList.length = hi + 1) && am_swT pc lo offs.toList sw
  | .lookupswitch d ps => decide ((pc : Int) + d = (a : Int)) && (ps.toList.zip (ps.toList.drop 1)).all (fun (a, next) => a.1 < next.1) && am_swL pc ps.toList sw
  | .getfield i => cond (Nat.beq c 100) (am_wd w (.fieldLink (am_own mid) i (am_gf a).1 (am_gf a).2.1 (am_gf a).2.2) && Nat.ble a 1) (Nat.ble c 8 && Nat.ble (a + 1) (am_N c) && am_wd w (.fieldLink (am_own mid) i (am_T c a).1 (am_T c a).2.1 (am_T c a).2.2.1) && (Nat.beq b 1 == Nat.beq (am_fk c a) 1))
  | .putfield i => Nat.ble c 8 && Nat.ble (a + 1) (am_N c) && am_wd w (.fieldLink (am_own mid) i (am_T c a).1 (am_T c a).2.1 (am_T c a).2.2.1) && Nat.beq b (am_fk c a) && (!(am_T c a).2.2.2 || (am_in mid && decide ((am_T c a).1 = am_own mid)))
  | .getstatic i => Nat.ble a 3 && am_wd w (.fieldLink (am_own mid) i (am_sf a).1 (am_sf a).2.1 (am_sf a).2.2)
  | .new i => am_wd w (.classLink (am_own mid) i (am_R a))
  | .newarray t => decide (t = .int)
  | .anewarray i => am_wd w (.classLink (am_own mid) i (am_R (am_ge a)))
  | .invokevirtual i => Nat.beq b 8 || (Nat.beq b 0 && am_wd w (.methodLink (am_own mid) i (am_y a)) && !am_ss a && !am_in a && Nat.ble (a + 1) am_nm)
  | .invokespecial i => cond (Nat.beq b 9) (am_wd w (.methodLink (am_own mid) i objectInit)) (Nat.beq b 0 && am_wd w (.methodLink (am_own mid) i (am_y a)) && !am_ss a && am_in a && Nat.ble (a + 1) am_nm)
  | .invokestatic i => match b with
    | 0 => am_wd w (.methodLink (am_own mid) i (am_y a)) && am_ss a && Nat.ble (a + 1) am_nm
    | 1 => am_wd w (.methodLink (am_own mid) i Lib.Math.max.name)
    | 2 => am_wd w (.methodLink (am_own mid) i Lib.Math.min.name)
    | 3 => am_wd w (.methodLink (am_own mid) i Lib.Math.abs.name)
    | 4 => am_wd w (.methodLink (am_own mid) i arraycopyName)
    | 5 => decide (am_ns c = (am_own mid, i, a)) && am_ss a && Nat.ble (a + 1) am_nm && Nat.ble c 2
    | _ => Nat.beq b 8
  | _ => true
def am_ckB (mid pc : Nat) : am_X → Bool
  | (ins, nx, a, b, c, w, k, sw) => (match ins with
    | .tableswitch _ _ _ _ => decide (decode (am_by mid) pc = .ok (ins, nx - pc))
    | .lookupswitch _ _ => decide (decode (am_by mid) pc = .ok (ins, nx - pc))
    | .athrow => true
    | _ => decide (decode (am_by mid) pc = .ok (ins, am_ln ins)) && Nat.beq nx (pc + am_ln ins)) && am_ckX mid pc ins a b c w k sw
def am_ckO (mid pc : Nat) : Bool := match am_code mid pc with
  | none => true
  | some x => am_ckB mid pc x
def am_ckM (mid : Nat) : Bool := (List.range (am_cn mid)).all (am_ckO mid)
/-- what every method of the tables must be -/
def am_mkB (a : Nat) : Bool :=
  (Nat.beq a 0 || am_wd (am_wS a) (if am_ss a then .static (am_y a) else .instanceMethod (am_y a))) &&
  (am_ss a || am_in a || am_wd (am_wV a) (.selects (am_y a).cls (am_y a) (am_y a))) &&
  am_wd (am_wI a) (.initialized (am_y a).cls) &&
  plainName (am_y a).cls && decide ((am_y a).cls ≠ "java/lang/invoke/MethodHandle") && decide ((am_y a).cls ≠ "java/lang/invoke/VarHandle") &&
  decide ((parseMethodDescriptor (am_y a).desc).map (fun d => d.parameters.length) = some (am_np a)) &&
  (!am_in a || (decide ((am_y a).name = "<init>") && decide (am_rt a = none))) && Nat.beq (am_na a) (am_np a + (if am_ss a then 0 else 1)) && decide (am_own a = (am_y a).cls) &&
  (am_ss a || (Nat.ble (am_ci a) 8 && decide (am_R (am_ci a) = (am_y a).cls)) || (Nat.beq (am_ci a) 100 && decide ((am_y a).cls = "java/lang/String"))) &&
  (match am_rk a with
    | 0 => decide (am_rt a = none)
    | 1 => decide (am_rt a = some .int)
    | 2 => decide (am_rt a = some .boolean)
    | 3 => decide (am_rt a = some .char)
    | 4 => decide (am_rt a = some .byte)
    | _ => (match am_rt a with
      | some (.object _) => true
      | some (.array _) => true
      | _ => false)) && Nat.ble (am_mx a) 30
