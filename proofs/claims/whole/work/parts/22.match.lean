/-! the blocks against the bytes -/
def jS (k b : Nat) : Nat := (jST.getD k []).getD b 0
def jNb (k : Nat) : Nat := (jST.getD k []).length
def okB (k b pc : Nat) (off : Int) : Bool := decide (b < jNb k) && decide ((pc : Int) + off = (jS k b : Int))
def okJ (k : Nat) (i : mIns) (pc : Nat) (off : Int) (len : Nat) : Bool := decide (i.2.1 = k) && okB k i.2.2.1 pc off && decide (len = 3)
def okC (k : Nat) (i : mIns) (cp : Nat) (kinds : List Nat) (more : Nat) : Bool := decide (100 ≤ i.1) && decide (i.1 < 104) && decide (i.2.1 < jNm) && decide (i.2.1 ≠ jLaw) && decide (i.2.2.1 = jMa i.2.1 + more) && kinds.any (fun q => decide (jCL[i.2.2.2.toNat]? = some (jMo k, cp, i.2.1, q)))
def isRefT (t : FieldType) : Bool := match t with
  | .object _ => true
  | .array _ => true
  | _ => false
def okF (k : Nat) (i : mIns) (cp : Nat) : Bool := decide (jFL[i.2.2.2.toNat]? = some (jMo k, cp, i.2.2.1, i.2.1)) && decide (i.2.1 < jNs.getD i.2.2.1 0)
def okP (k : Nat) (i : mIns) : Bool := !(jTf i.2.2.1 i.2.1).2.2.2 || (decide ((jMn k).name = "<init>") && decide ((jTf i.2.2.1 i.2.1).1 = jOw (jMo k)))
def okI (k pc : Nat) (i : mIns) (j : Instr) (len : Nat) : Bool :=
  match j with
  | .iconst n => decide (i.1 = 0) && decide (n = i.2.2.2) && decide (len = 1)
  | .bipush n => decide (i.1 = 0) && decide ((Int8.ofInt n).toInt32 = oI i.2.2.2) && decide (len = 2)
  | .sipush n => decide (i.1 = 0) && decide ((Int16.ofInt n).toInt32 = oI i.2.2.2) && decide (len = 3)
  | .ldc cp => (decide (i.1 = 0) && decide (jKT[i.2.2.1]? = some (jMo k, cp, i.2.2.2)) || decide (i.1 = 56) && decide (jSr[i.2.2.2.toNat]? = some (jMo k, cp, i.2.1))) && decide (len = 2)
  | .ldc_w cp => (decide (i.1 = 0) && decide (jKT[i.2.2.1]? = some (jMo k, cp, i.2.2.2)) || decide (i.1 = 56) && decide (jSr[i.2.2.2.toNat]? = some (jMo k, cp, i.2.1))) && decide (len = 3)
  | .lconst n => decide (i.1 = 2) && decide (Int64.ofNat n = Int64.ofInt i.2.2.2) && decide (len = 1)
  | .ldc2_w cp => decide (i.1 = 2) && decide (jKU[i.2.2.1]? = some (jMo k, cp, i.2.2.2)) && decide (len = 3)
  | .aconst_null => decide (i.1 = 3) && decide (len = 1)
  | .iload n => decide (i.1 = 4) && decide (n = i.2.1) && decide (len = 2)
  | .iload_n n => decide (i.1 = 4) && decide (n.val = i.2.1) && decide (len = 1)
  | .lload n => decide (i.1 = 5) && decide (n = i.2.1) && decide (len = 2)
  | .lload_n n => decide (i.1 = 5) && decide (n.val = i.2.1) && decide (len = 1)
  | .aload n => decide (i.1 = 6) && decide (n = i.2.1) && decide (len = 2)
  | .aload_n n => decide (i.1 = 6) && decide (n.val = i.2.1) && decide (len = 1)
  | .istore n => decide (i.1 = 7) && decide (n = i.2.1) && decide (len = 2)
  | .istore_n n => decide (i.1 = 7) && decide (n.val = i.2.1) && decide (len = 1)
  | .lstore n => decide (i.1 = 8) && decide (n = i.2.1) && decide (len = 2)
  | .lstore_n n => decide (i.1 = 8) && decide (n.val = i.2.1) && decide (len = 1)
  | .astore n => decide (i.1 = 9) && decide (n = i.2.1) && decide (len = 2)
  | .astore_n n => decide (i.1 = 9) && decide (n.val = i.2.1) && decide (len = 1)
  | .iinc n c => decide (i.1 = 10) && decide (n = i.2.1) && decide (c = i.2.2.2) && decide (len = 3)
  | .pop => decide (i.1 = 12) && decide (len = 1)
  | .dup => decide (i.1 = 13) && decide (len = 1)
  | .dup2 => decide (i.1 = 14) && decide (len = 1)
  | .dup_x1 => decide (i.1 = 15) && decide (len = 1)
  | .iadd => decide (i.1 = 16) && decide (len = 1)
  | .isub => decide (i.1 = 17) && decide (len = 1)
  | .imul => decide (i.1 = 18) && decide (len = 1)
  | .idiv => decide (i.1 = 19) && decide (len = 1)
  | .irem => decide (i.1 = 20) && decide (len = 1)
  | .ineg => decide (i.1 = 21) && decide (len = 1)
  | .ishl => decide (i.1 = 22) && decide (len = 1)
  | .ishr => decide (i.1 = 23) && decide (len = 1)
  | .iushr => decide (i.1 = 24) && decide (len = 1)
  | .iand => decide (i.1 = 25) && decide (len = 1)
  | .ior => decide (i.1 = 26) && decide (len = 1)
  | .ixor => decide (i.1 = 27) && decide (len = 1)
  | .i2b => decide (i.1 = 28) && decide (len = 1)
  | .i2c => decide (i.1 = 29) && decide (len = 1)
  | .i2l => decide (i.1 = 30) && decide (len = 1)
  | .l2i => decide (i.1 = 31) && decide (len = 1)
  | .lshl => decide (i.1 = 32) && decide (len = 1)
  | .lshr => decide (i.1 = 33) && decide (len = 1)
  | .land => decide (i.1 = 34) && decide (len = 1)
  | .lor => decide (i.1 = 35) && decide (len = 1)
  | .lcmp => decide (i.1 = 36) && decide (len = 1)
  | .iaload => decide (i.1 = 40) && decide (len = 1)
  | .baload => (decide (i.1 = 41) || decide (i.1 = 42)) && decide (len = 1)
  | .aaload => decide (i.1 = 43) && decide (len = 1)
  | .iastore => decide (i.1 = 44) && decide (len = 1)
  | .bastore => (decide (i.1 = 45) || decide (i.1 = 46)) && decide (len = 1)
  | .aastore => decide (i.1 = 47) && decide (len = 1)
  | .arraylength => decide (i.1 = 48) && decide (len = 1)
  | .getfield cp => okF k i cp && (decide (i.1 = 50) && !isRefT (jFt i.2.2.1 i.2.1) || decide (i.1 = 51) && isRefT (jFt i.2.2.1 i.2.1)) && decide (len = 3)
  | .putfield cp => okF k i cp && okP k i && (decide (i.1 = 52) && decide (jFt i.2.2.1 i.2.1 = .int) || decide (i.1 = 49) && (decide (jFt i.2.2.1 i.2.1 = .boolean) || decide (jFt i.2.2.1 i.2.1 = .byte)) || decide (i.1 = 53) && isRefT (jFt i.2.2.1 i.2.1)) && decide (len = 3)
  | .getstatic cp => (decide (i.1 = 54) && decide (jGS[i.2.2.1]? = some (jMo k, cp, 0)) && decide (i.2.2.2 = 1) || decide (i.1 = 55) && (decide (jGS[i.2.2.2.toNat]? = some (jMo k, cp, 1)) && decide (i.2.1 = 1) || decide (jGS[i.2.2.2.toNat]? = some (jMo k, cp, 2)) && decide (i.2.1 = 6) || decide (jGS[i.2.2.2.toNat]? = some (jMo k, cp, 3)) && decide (i.2.1 = 7)) || decide (i.1 = 57) && decide (jGS[i.2.2.2.toNat]? = some (jMo k, cp, 4))) && decide (len = 3)
  | .new cp => decide (i.1 = 58) && decide (jKL[i.2.2.2.toNat]? = some (jMo k, cp, i.2.2.1)) && decide (i.2.2.1 < 15) && decide (len = 3)
  | .newarray t => decide (i.1 = 59) && (decide (t = .int) && decide (i.2.1 = 0) || decide (t = .byte) && decide (i.2.1 = 1) || decide (t = .boolean) && decide (i.2.1 = 2)) && decide (len = 2)
  | .anewarray cp => decide (i.1 = 59) && decide (i.2.1 = 3) && decide (jOL[i.2.2.2.toNat]? = some (jMo k, cp, 4)) && decide (len = 3)
  | .goto off => decide (i.1 = 60) && okJ k i pc off len
  | .if_icmp .eq off => decide (i.1 = 61) && okJ k i pc off len
  | .if_icmp .ne off => decide (i.1 = 62) && okJ k i pc off len
  | .if_icmp .lt off => decide (i.1 = 63) && okJ k i pc off len
  | .if_icmp .ge off => decide (i.1 = 64) && okJ k i pc off len
  | .if_icmp .gt off => decide (i.1 = 65) && okJ k i pc off len
  | .if_icmp .le off => decide (i.1 = 66) && okJ k i pc off len
  | .ifCond .eq off => decide (i.1 = 67) && okJ k i pc off len
  | .ifCond .ne off => decide (i.1 = 68) && okJ k i pc off len
  | .ifCond .lt off => decide (i.1 = 69) && okJ k i pc off len
  | .ifCond .ge off => decide (i.1 = 70) && okJ k i pc off len
  | .ifCond .gt off => decide (i.1 = 71) && okJ k i pc off len
  | .ifCond .le off => decide (i.1 = 72) && okJ k i pc off len
  | .ifnull off => decide (i.1 = 73) && okJ k i pc off len
  | .ifnonnull off => decide (i.1 = 74) && okJ k i pc off len
  | .if_acmp .eq off => decide (i.1 = 75) && okJ k i pc off len
  | .tableswitch dflt lo hi offs => decide (i.1 = 76) && decide (i.2.1 = k) && decide (lo = i.2.2.2) && decide (((jSW.getD k []).getD i.2.2.1 []).length = offs.size + 1) && decide (hi - lo + 1 = offs.size) && okB k (((jSW.getD k []).getD i.2.2.1 []).getD 0 0) pc dflt && (List.range offs.size).all (fun n => match offs[n]? with
      | some off => okB k (((jSW.getD k []).getD i.2.2.1 []).getD (n + 1) 0) pc off
      | none => false)
  | .ireturn => (decide (i.1 = 80) && decide (jMr k = some .int) || decide (i.1 = 84) && decide (jMr k = some .boolean) || decide (i.1 = 85) && decide (jMr k = some .byte) || decide (i.1 = 86) && decide (jMr k = some .char)) && decide (len = 1)
  | .lreturn => decide (i.1 = 81) && decide (jMr k = some .long) && decide (len = 1)
  | .areturn => decide (i.1 = 82) && (match jMr k with
      | some t => isRefT t
      | none => false) && decide (len = 1)
  | .return_ => decide (i.1 = 83) && decide (jMr k = none) && decide (len = 1)
  | .invokevirtual cp => (okC k i cp [0, 6, 7, 8] 1 || decide (i.1 = 105) && decide (jOL[i.2.2.2.toNat]? = some (jMo k, cp, 2))) && decide (len = 3)
  | .invokespecial cp => (okC k i cp [2, 3, 5] 1 || decide (i.1 = 107) && decide (jOL[i.2.2.2.toNat]? = some (jMo k, cp, 0))) && decide (len = 3)
  | .invokestatic cp => (okC k i cp [1, 4] 0 || decide (i.1 = 104) && decide (jOL[i.2.2.2.toNat]? = some (jMo k, cp, 1))) && decide (len = 3)
  | .checkcast cp => decide (i.1 = 106) && decide (jOL[i.2.2.2.toNat]? = some (jMo k, cp, 3)) && decide (len = 3)
  | _ => false
def isT (i : mIns) : Bool := decide (i.1 = 60) || decide (i.1 = 76) || decide (80 ≤ i.1) && decide (i.1 < 90)
def mt (k : Nat) (cc : ByteArray) : Nat → List mIns → Bool
  | _, [] => false
  | pc, i :: is =>
    if i.1 = 199 then true
    else if i.1 = 79 then decide (i.2.1 = k) && decide (i.2.2.1 < jNb k) && decide (jS k i.2.2.1 = pc)
    else match decode cc pc with
      | .ok (j, len) => okI k pc i j len && (isT i || mt k cc (pc + len) is)
      | .error _ => false
def mtM (k : Nat) : Bool := decide (jS k 0 = 0) && decide (0 < jNb k) && (List.range (jNb k)).all (fun b => mt k (jMb k) (jS k b) (gb k b))
