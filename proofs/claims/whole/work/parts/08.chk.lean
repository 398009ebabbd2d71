/-- an instruction of a method, checked: its length, where it goes on, what it links -/
def mj_chk (o : Nat) (init : Bool) (pc : Nat) (e : mj_I) : Bool :=
  match e.1 with
  | .bipush _ | .ldc _ | .iload _ | .lload _ | .aload _ | .istore _ | .lstore _ | .astore _ | .newarray _ => decide (e.2.1 = 2) && (match e.1 with
    | .ldc i => if e.2.2.2 = 1 then mj_tl.any (fun r => r.1 == o && r.2.1 == i && r.2.2 == e.2.2.1) else mj_kl.any (fun r => r.1 == o && r.2.1 == i && r.2.2.1 == e.2.2.1)
    | .newarray t => decide (newarray.typeOf t = mj_ty e.2.2.1)
    | _ => true)
  | .sipush _ => decide (e.2.1 = 3)
  | .ldc_w i => decide (e.2.1 = 3) && mj_kl.any (fun r => r.1 == o && r.2.1 == i && r.2.2.1 == e.2.2.1)
  | .iinc _ _ => decide (e.2.1 = 3) || decide (e.2.1 = 6)
  | .goto off | .ifnull off | .ifnonnull off | .ifCond _ off | .if_icmp _ off => decide (e.2.1 = 3) && decide ((pc : Int) + off = (e.2.2.1 : Int))
  | .tableswitch d lo hi offs => decide (0 ≤ (pc : Int) + d) && offs.toList.all (fun off => decide (0 ≤ (pc : Int) + off)) && decide (offs.size = (hi - lo + 1).toNat)
  | .lookupswitch d ps => decide (0 ≤ (pc : Int) + d) && ps.toList.all (fun q => decide (0 ≤ (pc : Int) + q.2)) && (ps.toList.zip (ps.toList.drop 1)).all (fun (a, next) => a.1 < next.1)
  | .getfield i => decide (e.2.1 = 3) && mj_fl.any (fun r => r.1 == o && r.2.1 == i && r.2.2.1 == e.2.2.1 && r.2.2.2.1 == e.2.2.2)
  | .putfield i => decide (e.2.1 = 3) && mj_fl.any (fun r => r.1 == o && r.2.1 == i && r.2.2.1 == e.2.2.1 && r.2.2.2.1 == e.2.2.2) && (match vwCl[e.2.2.1]? with
    | some q => !(q.2.1 e.2.2.2).2.2.2 || (init && decide ((q.2.1 e.2.2.2).1 = mj_own o))
    | none => false)
  | .new i => decide (e.2.1 = 3) && mj_nl.any (fun r => r.1 == o && r.2.1 == i && r.2.2.1 == e.2.2.1)
  | .anewarray i => decide (e.2.1 = 3) && mj_al.any (fun r => r.1 == o && r.2.1 == i && r.2.2.1 == e.2.2.1)
  | .multianewarray i n => decide (e.2.1 = 4) && decide (n = 2) && mj_al.any (fun r => r.1 == o && r.2.1 == i && r.2.2.1 == 27)
  | .invokestatic i => decide (e.2.1 = 3) && (if e.2.2.1 = 3001 then mj_acl.any (fun r => r.1 == o && r.2.1 == i) else if 3005 ≤ e.2.2.1 then mj_ml.any (fun r => r.1 == o && r.2.1 == i && r.2.2.1 == e.2.2.1) else mj_cl.any (fun r => r.1 == o && r.2.1 == i && decide (r.2.2.1 < 2) && r.2.2.2.1 == e.2.2.1 && r.2.2.2.2.1 == e.2.2.2))
  | .invokespecial i => decide (e.2.1 = 3) && (if e.2.2.1 = 3000 then mj_ol.any (fun r => r.1 == o && r.2.1 == i) else mj_cl.any (fun r => r.1 == o && r.2.1 == i && decide (2 ≤ r.2.2.1) && decide (r.2.2.1 < 5) && r.2.2.2.1 == e.2.2.1 && r.2.2.2.2.1 == e.2.2.2))
  | .invokevirtual i => decide (e.2.1 = 3) && (if 3002 ≤ e.2.2.1 then mj_vl.any (fun r => r.1 == o && r.2.1 == i && r.2.2.1 == e.2.2.1) else mj_cl.any (fun r => r.1 == o && r.2.1 == i && (if e.2.2.1 < 1000 then r.2.2.1 == 5 else r.2.2.1 == 6) && r.2.2.2.1 == e.2.2.1 && r.2.2.2.2.1 == e.2.2.2))
  | .pop | .dup | .dup2 | .iadd | .isub | .imul | .idiv | .irem | .ineg | .ishl | .ishr | .iushr | .iand | .ior | .ixor | .ladd | .lsub | .lneg | .lcmp | .i2l | .l2i | .i2s | .i2c | .aconst_null | .iconst _ | .lconst _ | .iload_n _ | .lload_n _ | .aload_n _ | .istore_n _ | .astore_n _ | .lstore_n _ | .arraylength | .iaload | .baload | .caload | .aaload | .iastore | .bastore | .castore | .aastore | .ireturn | .lreturn | .areturn | .return_ => decide (e.2.1 = 1)
  | _ => false
/-- the own class of a method, by number -/
def mj_oc (y : Nat) : Nat := (mj_m y).2.2.2.2
def mj_mok (y : Nat) : Bool := (mj_prog y).all (fun q => decide (decode (mj_m y).2.1 q.1 = .ok (q.2.1, q.2.2.1)) && mj_chk (mj_oc y) (decide ((mj_Y y).name = "<init>")) q.1 q.2) && decide (mj_own (mj_oc y) = (mj_Y y).cls) && plainName (mj_Y y).cls
