/-! ===== THE RESOLVED INSTRUCTIONS ARE THE BYTES' ===== -/
abbrev ksl : List (Nat × Nat × Nat) := [(7, 59, 0), (7, 65, 1), (7, 70, 2), (7, 79, 3), (7, 84, 13), (7, 86, 4), (7, 91, 5), (7, 93, 6), (7, 95, 7), (7, 97, 8), (7, 99, 9), (7, 101, 10), (7, 103, 11), (7, 105, 12)]
def ac5 (t : ArrayType) (k : Nat) : Bool := match t, k with
  | .int, 0 => true
  | .boolean, 1 => true
  | .byte, 2 => true
  | _, _ => false
def relB (m pc ln : Nat) (real res : Instr) : Bool := match res with
  | .ldc k => match real with
    | .iconst n => Nat.beq ln 1 && decide (Int32.ofInt n = ck.getD k 0)
    | .bipush n => Nat.beq ln 2 && decide ((Int8.ofInt n).toInt32 = ck.getD k 0)
    | .sipush n => Nat.beq ln 3 && decide ((Int16.ofInt n).toInt32 = ck.getD k 0)
    | .ldc i => Nat.beq ln 2 && decide ((mow m, i, k) ∈ ko)
    | .ldc_w i => Nat.beq ln 3 && decide ((mow m, i, k) ∈ ko)
    | _ => false
  | .ldc2_w k => match real with
    | .ldc2_w i => Nat.beq ln 3 && decide ((mow m, i, k) ∈ kl)
    | .lconst n => Nat.beq ln 1 && decide (Int64.ofNat (n : Nat) = cl.getD k 0)
    | _ => false
  | .ldc_w k => match real with
    | .ldc i => Nat.beq ln 2 && decide ((mow m, i, k) ∈ ksl)
    | _ => false
  | .getstatic k => match real with
    | .getstatic i => Nat.beq ln 3 && decide (mow m = 15 ∧ i = 39 ∧ k = 0)
    | _ => false
  | .iload k => match real with
    | .iload_n q => Nat.beq ln 1 && decide ((q : Nat) = k)
    | .iload q => Nat.beq ln 2 && decide (q = k)
    | _ => false
  | .aload k => match real with
    | .aload_n q => Nat.beq ln 1 && decide ((q : Nat) = k)
    | .aload q => Nat.beq ln 2 && decide (q = k)
    | _ => false
  | .istore k => match real with
    | .istore_n q => Nat.beq ln 1 && decide ((q : Nat) = k ∧ m ≠ mTh)
    | .istore q => Nat.beq ln 2 && decide (q = k ∧ m ≠ mTh)
    | _ => false
  | .astore k => match real with
    | .astore_n q => Nat.beq ln 1 && decide ((q : Nat) = k ∧ m ≠ mTh)
    | .astore q => Nat.beq ln 2 && decide (q = k ∧ m ≠ mTh)
    | _ => false
  | .iinc k n => match real with
    | .iinc q z => Nat.beq ln 3 && decide (q = k ∧ Int32.ofInt z = ck.getD n.toNat 0 ∧ m ≠ mTh)
    | _ => false
  | .lload k => match real with
    | .lload_n q => Nat.beq ln 1 && decide ((q : Nat) = k ∧ m = mTh)
    | _ => false
  | .lstore k => match real with
    | .lstore_n q => Nat.beq ln 1 && decide ((q : Nat) = k ∧ m = mTh ∧ 1 ≤ k)
    | _ => false
  | .fstore k => match real with
    | .istore q => Nat.beq ln 2 && decide (q = k ∧ m = mTh ∧ 1 ≤ k)
    | _ => false
  | .multianewarray k n => match real with
    | .iinc q z => Nat.beq ln 3 && decide (q = k ∧ Int32.ofInt z = ck.getD n 0 ∧ m = mTh ∧ 1 ≤ k)
    | _ => false
  | .invokespecial _ => match real with
    | .invokespecial i => Nat.beq ln 3 && decide ((mow m, i) ∈ ob)
    | _ => false
  | .getfield x => match real with
    | .getfield i => Nat.beq ln 3 && decide ((mow m, i, x / 512, x / 4 % 128) ∈ fl) && decide (kr (x / 512) (x / 4 % 128) = (Nat.beq (x % 4) 2))
    | _ => false
  | .putfield x => match real with
    | .putfield i => Nat.beq ln 3 && decide ((mow m, i, x / 512, x / 4 % 128) ∈ fl) && decide (kT (x / 512) (x / 4 % 128) = "I" ∧ x % 4 = 0 ∨ kT (x / 512) (x / 4 % 128) = "Z" ∧ x % 4 = 1 ∨ kr (x / 512) (x / 4 % 128) = true ∧ x % 4 = 2) && (!(kfin (x / 512) (x / 4 % 128)) || (decide ((myn m).name = "<init>") && decide ((vwCl[x / 512 - 1]?).map (fun q => (q.2.1 (x / 4 % 128)).1) = some (own (mow m)))))
    | _ => false
  | .new kd => match real with
    | .new i => Nat.beq ln 3 && decide ((mow m, i, kd) ∈ cn)
    | _ => false
  | .anewarray kd => match real with
    | .newarray t => Nat.beq ln 2 && Nat.ble 20 kd && ac5 t (kd % 5)
    | _ => false
  | .checkcast kd => match real with
    | .checkcast i => Nat.beq ln 3 && decide ((mow m, i, kd) ∈ cn)
    | _ => false
  | .goto t => match real with
    | .goto o => Nat.beq ln 3 && decide ((pc : Int) + o = t ∧ 0 ≤ t)
    | _ => false
  | .ifCond c t => match real with
    | .ifCond c' o => Nat.beq ln 3 && decide (c' = c ∧ (pc : Int) + o = t ∧ 0 ≤ t)
    | _ => false
  | .if_icmp c t => match real with
    | .if_icmp c' o => Nat.beq ln 3 && decide (c' = c ∧ (pc : Int) + o = t ∧ 0 ≤ t)
    | _ => false
  | .if_acmp c t => match real with
    | .if_acmp c' o => Nat.beq ln 3 && decide (c' = c ∧ (pc : Int) + o = t ∧ 0 ≤ t)
    | _ => false
  | .ifnull t => match real with
    | .ifnull o => Nat.beq ln 3 && decide ((pc : Int) + o = t ∧ 0 ≤ t)
    | _ => false
  | .ifnonnull t => match real with
    | .ifnonnull o => Nat.beq ln 3 && decide ((pc : Int) + o = t ∧ 0 ≤ t)
    | _ => false
  | .tableswitch df lo hi offs => match real with
    | .tableswitch df' lo' hi' offs' => decide ((pc : Int) + df' = df ∧ 0 ≤ df ∧ lo' = lo ∧ hi' = hi ∧ offs.toList = offs'.toList.map (fun o => (pc : Int) + o) ∧ ∀ o ∈ offs.toList, 0 ≤ o)
    | _ => false
  | .invokevirtual k => match real with
    | .invokevirtual i => Nat.beq ln 3 && decide ((mow m, i, k, 0) ∈ ml)
    | .invokestatic i => Nat.beq ln 3 && (decide ((mow m, i, k, 1) ∈ ml) || decide ((mow m, i, k, 3) ∈ ml))
    | .invokespecial i => Nat.beq ln 3 && (decide ((mow m, i, k, 2) ∈ ml) || decide ((mow m, i, k, 4) ∈ ml))
    | .invokeinterface i _ => Nat.beq ln 5 && decide ((mow m, i, k, 5) ∈ ml)
    | _ => false
  | .fadd => match real with
    | .invokestatic i => Nat.beq ln 3 && decide ((mow m, i) ∈ [(3, 39), (10, 211)])
    | _ => false
  | .fsub => match real with
    | .invokestatic i => Nat.beq ln 3 && decide ((mow m, i) ∈ [(10, 170)])
    | _ => false
  | .fneg => match real with
    | .invokestatic i => Nat.beq ln 3 && decide ((mow m, i) ∈ [(3, 48)])
    | _ => false
  | .dadd => match real with
    | .invokestatic i => Nat.beq ln 3 && decide ((mow m, i) ∈ [(6, 126)])
    | _ => false
  | .dneg => match real with
    | .invokevirtual i => Nat.beq ln 3 && decide ((mow m, i) ∈ [(9, 54)])
    | _ => false
  | .caload => match real with
    | .invokevirtual i => Nat.beq ln 3 && decide ((mow m, i) ∈ [(9, 59)])
    | _ => false
  | .drem => match real with
    | .invokevirtual i => Nat.beq ln 3 && decide ((mow m, i) ∈ [(15, 129)])
    | _ => false
  | .daload => match real with
    | .arraylength => Nat.beq ln 1
    | _ => false
  | .athrow => true
  | .nop => true
  | i => Nat.beq ln 1 && decide (real = i)
def chk (m : Nat) : Bool := (tbs.getD m []).all fun e => match decode (mby m) e.1 with
  | .ok (real, ln) => Nat.beq ln e.2.1 && relB m e.1 ln real e.2.2
  | _ => false
