/-! one instruction of the small machine, but for calls and answers -/
/-- what pushes -/
def sm_a (i : Instr) (n pc : Nat) (L : List (Option PV)) (st : List PV) (m : PM) : Option PS := match i, n with
  | .iconst v, 1 => some (pc + 1, L, vI (Int32.ofInt v) :: st, m)
  | .bipush v, 2 => some (pc + 2, L, vI (Int8.ofInt v).toInt32 :: st, m)
  | .sipush v, 3 => some (pc + 3, L, vI (Int16.ofInt v).toInt32 :: st, m)
  | .lconst v, 1 => some (pc + 1, L, vL (Int64.ofNat (v : Nat)) :: st, m)
  | .dconst v, 1 => some (pc + 1, L, vD (if v = 0 then FP.dconst0 else FP.dconst1) :: st, m)
  | .aconst_null, 1 => some (pc + 1, L, vN :: st, m)
  | .iload_n k, 1 => match L[(k : Nat)]? with
    | some (some (.inl x)) => some (pc + 1, L, vI x :: st, m)
    | _ => none
  | .iload k, 2 => match L[k]? with
    | some (some (.inl x)) => some (pc + 2, L, vI x :: st, m)
    | _ => none
  | .lload_n k, 1 => match L[(k : Nat)]? with
    | some (some (.inr (.inl x))) => some (pc + 1, L, vL x :: st, m)
    | _ => none
  | .lload k, 2 => match L[k]? with
    | some (some (.inr (.inl x))) => some (pc + 2, L, vL x :: st, m)
    | _ => none
  | .dload_n k, 1 => match L[(k : Nat)]? with
    | some (some (.inr (.inr (.inl x)))) => some (pc + 1, L, vD x :: st, m)
    | _ => none
  | .dload k, 2 => match L[k]? with
    | some (some (.inr (.inr (.inl x)))) => some (pc + 2, L, vD x :: st, m)
    | _ => none
  | .aload_n k, 1 => match L[(k : Nat)]? with
    | some (some (.inr (.inr (.inr x)))) => some (pc + 1, L, .inr (.inr (.inr x)) :: st, m)
    | _ => none
  | .aload k, 2 => match L[k]? with
    | some (some (.inr (.inr (.inr x)))) => some (pc + 2, L, .inr (.inr (.inr x)) :: st, m)
    | _ => none
  | _, _ => none
/-- what stores, and the stack's own -/
def sm_b (i : Instr) (n pc : Nat) (L : List (Option PV)) (st : List PV) (m : PM) : Option PS := match i, n with
  | .istore_n k, 1 => match st with
    | .inl x :: r => match lset L (k : Nat) (vI x) with
      | some L' => some (pc + 1, L', r, m)
      | none => none
    | _ => none
  | .istore k, 2 => match st with
    | .inl x :: r => match lset L k (vI x) with
      | some L' => some (pc + 2, L', r, m)
      | none => none
    | _ => none
  | .lstore_n k, 1 => match st with
    | .inr (.inl x) :: r => match lset2 L (k : Nat) (vL x) with
      | some L' => some (pc + 1, L', r, m)
      | none => none
    | _ => none
  | .lstore k, 2 => match st with
    | .inr (.inl x) :: r => match lset2 L k (vL x) with
      | some L' => some (pc + 2, L', r, m)
      | none => none
    | _ => none
  | .dstore_n k, 1 => match st with
    | .inr (.inr (.inl x)) :: r => match lset2 L (k : Nat) (vD x) with
      | some L' => some (pc + 1, L', r, m)
      | none => none
    | _ => none
  | .dstore k, 2 => match st with
    | .inr (.inr (.inl x)) :: r => match lset2 L k (vD x) with
      | some L' => some (pc + 2, L', r, m)
      | none => none
    | _ => none
  | .astore_n k, 1 => match st with
    | .inr (.inr (.inr x)) :: r => match lset L (k : Nat) (.inr (.inr (.inr x))) with
      | some L' => some (pc + 1, L', r, m)
      | none => none
    | _ => none
  | .astore k, 2 => match st with
    | .inr (.inr (.inr x)) :: r => match lset L k (.inr (.inr (.inr x))) with
      | some L' => some (pc + 2, L', r, m)
      | none => none
    | _ => none
  | .iinc k d, 3 => match L[k]? with
    | some (some (.inl x)) => match lset L k (vI (x + Int32.ofInt d)) with
      | some L' => some (pc + 3, L', st, m)
      | none => none
    | _ => none
  | .dup, 1 => match st with
    | v :: r => if cat v = 1 then some (pc + 1, L, v :: v :: r, m) else none
    | _ => none
  | .dup2, 1 => match st with
    | v :: w :: r => if cat v = 1 then (if cat w = 1 then some (pc + 1, L, v :: w :: v :: w :: r, m) else none) else none
    | _ => none
  | .pop, 1 => match st with
    | v :: r => if cat v = 1 then some (pc + 1, L, r, m) else none
    | _ => none
  | _, _ => none
/-- numbers -/
def sm_c (i : Instr) (n pc : Nat) (L : List (Option PV)) (st : List PV) (m : PM) : Option PS := match i, n, st with
  | .iadd, 1, .inl y :: .inl x :: r => some (pc + 1, L, vI (x + y) :: r, m)
  | .isub, 1, .inl y :: .inl x :: r => some (pc + 1, L, vI (x - y) :: r, m)
  | .imul, 1, .inl y :: .inl x :: r => some (pc + 1, L, vI (x * y) :: r, m)
  | .iand, 1, .inl y :: .inl x :: r => some (pc + 1, L, vI (x &&& y) :: r, m)
  | .ior, 1, .inl y :: .inl x :: r => some (pc + 1, L, vI (x ||| y) :: r, m)
  | .ixor, 1, .inl y :: .inl x :: r => some (pc + 1, L, vI (x ^^^ y) :: r, m)
  | .ishl, 1, .inl y :: .inl x :: r => some (pc + 1, L, vI (x <<< (y &&& 31)) :: r, m)
  | .ishr, 1, .inl y :: .inl x :: r => some (pc + 1, L, vI (x >>> (y &&& 31)) :: r, m)
  | .idiv, 1, .inl y :: .inl x :: r => if y = 0 then none else some (pc + 1, L, vI (x / y) :: r, m)
  | .irem, 1, .inl y :: .inl x :: r => if y = 0 then none else some (pc + 1, L, vI (x - x / y * y) :: r, m)
  | .iushr, 1, .inl y :: .inl x :: r => some (pc + 1, L, vI (x.toUInt32 >>> (y.toUInt32 &&& Int32.toUInt32 31)).toInt32 :: r, m)
  | .ineg, 1, .inl x :: r => some (pc + 1, L, vI (-x) :: r, m)
  | .i2l, 1, .inl x :: r => some (pc + 1, L, vL x.toInt64 :: r, m)
  | .i2d, 1, .inl x :: r => some (pc + 1, L, vD (FP.i2d x) :: r, m)
  | .ladd, 1, .inr (.inl y) :: .inr (.inl x) :: r => some (pc + 1, L, vL (x + y) :: r, m)
  | .lsub, 1, .inr (.inl y) :: .inr (.inl x) :: r => some (pc + 1, L, vL (x - y) :: r, m)
  | .lmul, 1, .inr (.inl y) :: .inr (.inl x) :: r => some (pc + 1, L, vL (x * y) :: r, m)
  | .lshl, 1, .inl y :: .inr (.inl x) :: r => some (pc + 1, L, vL (x <<< (y.toInt64 &&& 63)) :: r, m)
  | .lcmp, 1, .inr (.inl y) :: .inr (.inl x) :: r => some (pc + 1, L, vI (lg_cmp x y) :: r, m)
  | .dcmp o, 1, .inr (.inr (.inl y)) :: .inr (.inr (.inl x)) :: r => some (pc + 1, L, vI (Op.cmpValue (FP.dcmp x y) o) :: r, m)
  | .d2l, 1, .inr (.inr (.inl x)) :: r => some (pc + 1, L, vL (FP.d2l x) :: r, m)
  | .dmul, 1, .inr (.inr (.inl y)) :: .inr (.inr (.inl x)) :: r => if FP.dmul x y &&& 0x7fffffffffffffff ≤ 0x7ff0000000000000 then some (pc + 1, L, vD (FP.dmul x y) :: r, m) else none
  | .dsub, 1, .inr (.inr (.inl y)) :: .inr (.inr (.inl x)) :: r => if FP.dsub x y &&& 0x7fffffffffffffff ≤ 0x7ff0000000000000 then some (pc + 1, L, vD (FP.dsub x y) :: r, m) else none
  | .ddiv, 1, .inr (.inr (.inl y)) :: .inr (.inr (.inl x)) :: r => if FP.ddiv x y &&& 0x7fffffffffffffff ≤ 0x7ff0000000000000 then some (pc + 1, L, vD (FP.ddiv x y) :: r, m) else none
  | _, _, _ => none
/-- branches -/
def sm_d (i : Instr) (n pc : Nat) (L : List (Option PV)) (st : List PV) (m : PM) : Option PS := match i, n with
  | .goto o, 3 => match bt pc o with
    | some t => some (t, L, st, m)
    | none => none
  | .ifCond c o, 3 => match st with
    | .inl x :: r => match bt pc o with
      | some t => match c with
        | .eq => some (if x = 0 then t else pc + 3, L, r, m)
        | .ne => some (if ¬ x = 0 then t else pc + 3, L, r, m)
        | .lt => some (if x < 0 then t else pc + 3, L, r, m)
        | .ge => some (if 0 ≤ x then t else pc + 3, L, r, m)
        | .gt => some (if 0 < x then t else pc + 3, L, r, m)
        | .le => some (if x ≤ 0 then t else pc + 3, L, r, m)
      | none => none
    | _ => none
  | .if_icmp c o, 3 => match st with
    | .inl y :: .inl x :: r => match bt pc o with
      | some t => match c with
        | .eq => some (if x = y then t else pc + 3, L, r, m)
        | .ne => some (if ¬ x = y then t else pc + 3, L, r, m)
        | .lt => some (if x < y then t else pc + 3, L, r, m)
        | .ge => some (if y ≤ x then t else pc + 3, L, r, m)
        | .gt => some (if y < x then t else pc + 3, L, r, m)
        | .le => some (if x ≤ y then t else pc + 3, L, r, m)
      | none => none
    | _ => none
  | .ifnull o, 3 => match st with
    | .inr (.inr (.inr none)) :: r => match bt pc o with
      | some t => some (t, L, r, m)
      | none => none
    | .inr (.inr (.inr (some _))) :: r => some (pc + 3, L, r, m)
    | _ => none
  | .ifnonnull o, 3 => match st with
    | .inr (.inr (.inr (some _))) :: r => match bt pc o with
      | some t => some (t, L, r, m)
      | none => none
    | .inr (.inr (.inr none)) :: r => some (pc + 3, L, r, m)
    | _ => none
  | .tableswitch d lo hi os, _ => match st with
    | .inl x :: r => if x.toInt < lo ∨ hi < x.toInt then
        match bt pc d with
        | some t => some (t, L, r, m)
        | none => none
      else match os[(x.toInt - lo).toNat]? with
        | some o => match bt pc o with
          | some t => some (t, L, r, m)
          | none => none
        | none => none
    | _ => none
  | .lookupswitch d ps, _ => match st with
    | .inl x :: r => if (ps.toList.zip (ps.toList.drop 1)).all (fun (a, next) => a.1 < next.1) = true then
        match bt pc (Op.lookupswitch.offset ps.toList d x.toInt) with
        | some t => some (t, L, r, m)
        | none => none
      else none
    | _ => none
  | _, _ => none
/-- the memory; o: the class whose code this is -/
def sm_e (o : Nat) (i : Instr) (n pc : Nat) (L : List (Option PV)) (st : List PV) (m : PM) : Option PS := match i, n with
  | .getfield x, 3 => match st with
    | .inr (.inr (.inr (some (t, k, g)))) :: r => match asc (flk o) x with
      | some (ci, s) => if tcl t = some ci then
          match fv m t k g s with
          | some v => some (pc + 3, L, v :: r, m)
          | none => none
        else none
      | none => none
    | _ => none
  | .putfield x, 3 => match st with
    | .inl v :: .inr (.inr (.inr (some (t, k, g)))) :: r => match asc (flk o) x with
      | some (ci, s) => if tcl t = some ci then (if ipf t s = true then some (pc + 3, L, r, wI m t k g s v) else none) else none
      | none => none
    | .inr (.inl v) :: .inr (.inr (.inr (some (t, k, g)))) :: r => match asc (flk o) x with
      | some (ci, s) => if tcl t = some ci then (if lpf t s = true then some (pc + 3, L, r, wL m t k g s v) else none) else none
      | none => none
    | _ => none
  | .iaload, 1 => match st with
    | .inl j :: .inr (.inr (.inr (some (t, k, g)))) :: r => match ilen m t k with
      | some N => if j < 0 ∨ N ≤ j.toNatClampNeg then none else some (pc + 1, L, vI (m.1 t k g j.toNatClampNeg) :: r, m)
      | none => none
    | _ => none
  | .iastore, 1 => match st with
    | .inl v :: .inl j :: .inr (.inr (.inr (some (t, k, g)))) :: r => match ilen m t k with
      | some N => if t = 10 then none else if j < 0 ∨ N ≤ j.toNatClampNeg then none else some (pc + 1, L, r, wI m t k g j.toNatClampNeg v)
      | none => none
    | _ => none
  | .aaload, 1 => match st with
    | .inl j :: .inr (.inr (.inr (some (5, _, _)))) :: r => if j < 0 ∨ 6 ≤ j.toNatClampNeg then none else some (pc + 1, L, vR 0 0 (2 + j.toNatClampNeg) :: r, m)
    | _ => none
  | .arraylength, 1 => match st with
    | .inr (.inr (.inr (some (t, k, _)))) :: r => match alen m t k with
      | some N => some (pc + 1, L, vI N :: r, m)
      | none => none
    | _ => none
  | .ldc x, 2 => match asc (ilk o) x with
    | some v => some (pc + 2, L, vI v :: st, m)
    | none => none
  | .ldc2_w x, 3 => match asc (llk o) x with
    | some v => some (pc + 3, L, vL v :: st, m)
    | none => match asc (dlk o) x with
      | some v => some (pc + 3, L, vD v :: st, m)
      | none => none
  | .invokestatic x, 3 => match asc (nlk o) x with
    | some 0 => match st with
      | .inl n :: .inl dp :: .inr (.inr (.inr (some (2, k2, g2)))) :: .inl sp :: .inr (.inr (.inr (some (2, k1, g1)))) :: [] =>
        if sp = 0 ∧ dp = 0 ∧ n = nI (nlen k1) ∧ nlen k2 = nlen k1 then some (pc + 3, L, [], wC m k1 g1 (nlen k1) k2 g2) else none
      | _ => none
    | some 1 => match st with
      | [.inr (.inr (.inl x))] => some (pc + 3, L, [vL x.toInt64], m)
      | _ => none
    | some 2 => match st with
      | .inl y :: .inl x :: r => if (r.map cat).sum ≤ 8 then some (pc + 3, L, vI (if x < y then y else x) :: r, m) else none
      | _ => none
    | some 3 => match st with
      | .inl y :: .inl x :: r => if (r.map cat).sum ≤ 8 then some (pc + 3, L, vI (if y < x then y else x) :: r, m) else none
      | _ => none
    | _ => none
  | _, _ => none
def sm_ins (o : Nat) (i : Instr) (n pc : Nat) (L : List (Option PV)) (st : List PV) (m : PM) : Option PS :=
  match sm_a i n pc L st m with
  | some r => some r
  | none => match sm_b i n pc L st m with
    | some r => some r
    | none => match sm_c i n pc L st m with
      | some r => some r
      | none => match sm_d i n pc L st m with
        | some r => some r
        | none => sm_e o i n pc L st m
