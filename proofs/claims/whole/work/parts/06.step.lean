def pg (m pc : Nat) : Instr × Nat := lk (tbs.getD m []) pc
/-- a method's arguments, locals, receiver's kind, return -/
def mna (m : Nat) : Nat := (mts.getD m (0, 0, 0, 0)).1
def mml (m : Nat) : Nat := (mts.getD m (0, 0, 0, 0)).2.1
def mrk (m : Nat) : Nat := (mts.getD m (0, 0, 0, 0)).2.2.1
def mrt (m : Nat) : Nat := (mts.getD m (0, 0, 0, 0)).2.2.2
/-- System.arraycopy of ints -/
def cpI (σ : Mm) (a i b j n : Nat) : Mm := (fun c q k => if c = mK σ b ∧ q = b then va_cpy (mI σ (mK σ a) a) (mI σ (mK σ b) b) i j n k else mI σ c q k, σ.2)
/-- ArrayList.grow() of the list a: its first array (ten places), or half as many again, with what was there -/
abbrev kO : Nat := 1003
def gre (σ : Mm) (a : Nat) : Nat := (mP σ 1 a 1).getD 0
/-- every place of a row is none or an object -/
def grE (σ : Mm) (e : Nat) : Bool := (List.range (mN σ e)).all fun j => match mP σ kO e j with
  | some y => decide (0 < mK σ y) && decide (mK σ y < 19)
  | none => true
def grG (σ : Mm) (a : Nat) : Bool := (decide (mP σ 19 0 100 = mP σ 1 a 1) && decide (mI σ 1 a 2 = 0)) || (decide (mK σ (gre σ a) = kO) && isA (va_rf (mP σ 1 a 1)) && decide (mI σ 1 a 2 = Int32.ofNat (mN σ (gre σ a))) && decide (2 ≤ mN σ (gre σ a)) && decide (mN σ (gre σ a) ≤ 1000) && grE σ (gre σ a))
def grS (σ : Mm) (a : Nat) : Mm := if mP σ 19 0 100 = mP σ 1 a 1 then sP (nw σ kO 10 10) 1 a 1 (some (mX σ)) else
  sP ((nw σ kO (mN σ (gre σ a) + mN σ (gre σ a) / 2) (mN σ (gre σ a) + mN σ (gre σ a) / 2)).1, (fun c q j => if c = kO ∧ q = mX σ ∧ j < mN σ (gre σ a) then mP σ kO (gre σ a) j else (nw σ kO (mN σ (gre σ a) + mN σ (gre σ a) / 2) (mN σ (gre σ a) + mN σ (gre σ a) / 2)).2.1 c q j), (nw σ kO (mN σ (gre σ a) + mN σ (gre σ a) / 2) (mN σ (gre σ a) + mN σ (gre σ a) / 2)).2.2) 1 a 1 (some (mX σ))
/-- one instruction that goes straight on: may it, locals, stack, memory behind it -/
def st1 (i : Instr) (ls st : List Value) (σ : Mm) : Bool × List Value × List Value × Mm := match i with
  | .ldc k => (true, ls, .int (ck.getD k 0) :: st, σ)
  | .ldc2_w k => (true, ls, .long (cl.getD k 0) :: st, σ)
  | .ldc_w k => (isA (va_rf (mP σ 19 0 k)), ls, va_rf (mP σ 19 0 k) :: st, σ)
  | .getstatic k => (isA (va_rf (mP σ 19 0 (100 + k))), ls, va_rf (mP σ 19 0 (100 + k)) :: st, σ)
  | .aconst_null => (true, ls, .null :: st, σ)
  | .iload k => (isI (ls.getD k uu), ls, ls.getD k uu :: st, σ)
  | .aload k => (isR (ls.getD k uu), ls, ls.getD k uu :: st, σ)
  | .istore k => match st with
    | v :: r => (isI v && decide (k < ls.length), ls.set k v, r, σ)
    | _ => (false, ls, st, σ)
  | .astore k => match st with
    | v :: r => (isR v && decide (k < ls.length), ls.set k v, r, σ)
    | _ => (false, ls, st, σ)
  | .iinc k n => (isI (ls.getD k uu), ls.set k (.int (vi (ls.getD k uu) + ck.getD n.toNat 0)), st, σ)
  | .iadd => match st with
    | b :: a :: r => (isI a && isI b, ls, .int (vi a + vi b) :: r, σ)
    | _ => (false, ls, st, σ)
  | .isub => match st with
    | b :: a :: r => (isI a && isI b, ls, .int (vi a - vi b) :: r, σ)
    | _ => (false, ls, st, σ)
  | .imul => match st with
    | b :: a :: r => (isI a && isI b, ls, .int (vi a * vi b) :: r, σ)
    | _ => (false, ls, st, σ)
  | .iand => match st with
    | b :: a :: r => (isI a && isI b, ls, .int (vi a &&& vi b) :: r, σ)
    | _ => (false, ls, st, σ)
  | .ior => match st with
    | b :: a :: r => (isI a && isI b, ls, .int (vi a ||| vi b) :: r, σ)
    | _ => (false, ls, st, σ)
  | .ixor => match st with
    | b :: a :: r => (isI a && isI b, ls, .int (vi a ^^^ vi b) :: r, σ)
    | _ => (false, ls, st, σ)
  | .ishl => match st with
    | b :: a :: r => (isI a && isI b, ls, .int (vi a <<< (vi b &&& 31)) :: r, σ)
    | _ => (false, ls, st, σ)
  | .ishr => match st with
    | b :: a :: r => (isI a && isI b, ls, .int (vi a >>> (vi b &&& 31)) :: r, σ)
    | _ => (false, ls, st, σ)
  | .iushr => match st with
    | b :: a :: r => (isI a && isI b, ls, .int ((vi a).toUInt32 >>> ((vi b).toUInt32 &&& Int32.toUInt32 31)).toInt32 :: r, σ)
    | _ => (false, ls, st, σ)
  | .idiv => match st with
    | b :: a :: r => (isI a && isI b && decide (¬ vi b = 0), ls, .int (vi a / vi b) :: r, σ)
    | _ => (false, ls, st, σ)
  | .irem => match st with
    | b :: a :: r => (isI a && isI b && decide (¬ vi b = 0), ls, .int (vi a - vi a / vi b * vi b) :: r, σ)
    | _ => (false, ls, st, σ)
  | .ineg => match st with
    | a :: r => (isI a, ls, .int (-(vi a)) :: r, σ)
    | _ => (false, ls, st, σ)
  | .i2b => match st with
    | a :: r => (isI a, ls, .int (vi a).toInt8.toInt32 :: r, σ)
    | _ => (false, ls, st, σ)
  | .i2c => match st with
    | a :: r => (isI a, ls, .int ((vi a).toUInt32 % 65536).toInt32 :: r, σ)
    | _ => (false, ls, st, σ)
  | .dup => match st with
    | a :: r => (isI a || isR a, ls, a :: a :: r, σ)
    | _ => (false, ls, st, σ)
  | .dup2 => match st with
    | a :: b :: r => ((isI a || isR a) && (isI b || isR b), ls, a :: b :: a :: b :: r, σ)
    | _ => (false, ls, st, σ)
  | .dup_x1 => match st with
    | a :: b :: r => ((isI a || isR a) && (isI b || isR b), ls, a :: b :: a :: r, σ)
    | _ => (false, ls, st, σ)
  | .pop => match st with
    | a :: r => (isI a || isR a, ls, r, σ)
    | _ => (false, ls, st, σ)
  | .invokespecial _ => match st with
    | a :: r => (isA a && Nat.ble r.length 8, ls, r, σ)
    | _ => (false, ls, st, σ)
  | .getfield x => match st with
    | o :: r => (isA o && decide (mK σ (vd o) = x / 512), ls, (match x % 4 with
      | 2 => va_rf (mP σ (x / 512) (vd o) (x / 4 % 128))
      | _ => .int (mI σ (x / 512) (vd o) (x / 4 % 128))) :: r, σ)
    | _ => (false, ls, st, σ)
  | .putfield x => match st with
    | v :: o :: r => (isA o && decide (mK σ (vd o) = x / 512) && (match x % 4 with
      | 2 => isR v
      | 1 => isI v && decide (vi v = 0 ∨ vi v = 1)
      | _ => isI v), ls, r, match x % 4 with
      | 2 => sP σ (x / 512) (vd o) (x / 4 % 128) (vr v)
      | _ => sI σ (x / 512) (vd o) (x / 4 % 128) (vi v))
    | _ => (false, ls, st, σ)
  | .arraylength => match st with
    | a :: r => (isA a && decide (20 ≤ mK σ (vd a)), ls, .int (Int32.ofNat (mN σ (vd a))) :: r, σ)
    | _ => (false, ls, st, σ)
  | .iaload => match st with
    | i :: a :: r => (isI i && isA a && akI (mK σ (vd a)) && ix (vi i) (mN σ (vd a)), ls, .int (mI σ (mK σ (vd a)) (vd a) (vi i).toNatClampNeg) :: r, σ)
    | _ => (false, ls, st, σ)
  | .baload => match st with
    | i :: a :: r => (isI i && isA a && (akZ (mK σ (vd a)) || akB (mK σ (vd a))) && ix (vi i) (mN σ (vd a)), ls, .int (mI σ (mK σ (vd a)) (vd a) (vi i).toNatClampNeg) :: r, σ)
    | _ => (false, ls, st, σ)
  | .aaload => match st with
    | i :: a :: r => (isI i && isA a && akO (mK σ (vd a)) && ix (vi i) (mN σ (vd a)), ls, va_rf (mP σ (mK σ (vd a)) (vd a) (vi i).toNatClampNeg) :: r, σ)
    | _ => (false, ls, st, σ)
  | .iastore => match st with
    | v :: i :: a :: r => (isI v && isI i && isA a && akI (mK σ (vd a)) && ix (vi i) (mN σ (vd a)), ls, r, sI σ (mK σ (vd a)) (vd a) (vi i).toNatClampNeg (vi v))
    | _ => (false, ls, st, σ)
  | .bastore => match st with
    | v :: i :: a :: r => (isI v && isI i && isA a && ((akZ (mK σ (vd a)) && decide (vi v = 0 ∨ vi v = 1)) || (akB (mK σ (vd a)) && decide ((vi v).toInt8.toInt32 = vi v))) && ix (vi i) (mN σ (vd a)), ls, r, sI σ (mK σ (vd a)) (vd a) (vi i).toNatClampNeg (vi v))
    | _ => (false, ls, st, σ)
  | .aastore => match st with
    | v :: i :: a :: r => (isA v && isI i && isA a && akO (mK σ (vd a)) && decide (0 < mK σ (vd v)) && decide (mK σ (vd v) < 19) && ix (vi i) (mN σ (vd a)), ls, r, sP σ (mK σ (vd a)) (vd a) (vi i).toNatClampNeg (vr v))
    | _ => (false, ls, st, σ)
  | .new kd => (true, ls, .ref (mX σ) :: st, nw σ kd 0 (kn kd))
  | .anewarray kd => match st with
    | n :: r => (isI n && decide (0 ≤ vi n) && decide ((vi n).toNatClampNeg ≤ 1000), ls, .ref (mX σ) :: r, nw σ kd (vi n).toNatClampNeg (vi n).toNatClampNeg)
    | _ => (false, ls, st, σ)
  | .lload k => (isL (ls.getD k uu), ls, ls.getD k uu :: st, σ)
  | .lstore k => match st with
    | v :: r => (isL v && decide (k + 1 < ls.length) && notL (ls.getD (k - 1) uu), (ls.set k v).set (k + 1) uu, r, σ)
    | _ => (false, ls, st, σ)
  | .fstore k => match st with
    | v :: r => (isI v && decide (k < ls.length) && notL (ls.getD (k - 1) uu), ls.set k v, r, σ)
    | _ => (false, ls, st, σ)
  | .multianewarray k n => (isI (ls.getD k uu) && notL (ls.getD (k - 1) uu), ls.set k (.int (vi (ls.getD k uu) + ck.getD n 0)), st, σ)
  | .lshl => match st with
    | b :: a :: r => (isL a && isI b, ls, .long (vl a <<< ((vi b).toInt64 &&& 63)) :: r, σ)
    | _ => (false, ls, st, σ)
  | .i2l => match st with
    | a :: r => (isI a, ls, .long (vi a).toInt64 :: r, σ)
    | _ => (false, ls, st, σ)
  | .lor => match st with
    | b :: a :: r => (isL a && isL b, ls, .long (vl a ||| vl b) :: r, σ)
    | _ => (false, ls, st, σ)
  | .lcmp => match st with
    | b :: a :: r => (isL a && isL b, ls, .int (lg_cmp (vl a) (vl b)) :: r, σ)
    | _ => (false, ls, st, σ)
  | .fadd => match st with
    | b :: a :: r => (isI a && isI b && Nat.ble r.length 8, ls, .int (if vi a < vi b then vi b else vi a) :: r, σ)
    | _ => (false, ls, st, σ)
  | .fsub => match st with
    | b :: a :: r => (isI a && isI b && Nat.ble r.length 8, ls, .int (if vi b < vi a then vi b else vi a) :: r, σ)
    | _ => (false, ls, st, σ)
  | .fneg => match st with
    | a :: r => (isI a && Nat.ble r.length 8, ls, .int (if 0 ≤ vi a then vi a else 0 - vi a) :: r, σ)
    | _ => (false, ls, st, σ)
  | .dneg => match st with
    | a :: r => (isA a && decide (mI σ 19 (vd a) 0 = 1) && Nat.ble r.length 4, ls, .int (mI σ 19 (vd a) 1) :: r, σ)
    | _ => (false, ls, st, σ)
  | .caload => match st with
    | i :: a :: r => (isI i && isA a && decide (mI σ 19 (vd a) 0 = 1) && decide (0 ≤ vi i) && decide (vi i < mI σ 19 (vd a) 1) && Nat.ble r.length 4, ls, .int (mI σ 19 (vd a) (2 + (vi i).toNatClampNeg)) :: r, σ)
    | _ => (false, ls, st, σ)
  | .dadd => match st with
    | n :: j :: b :: i :: a :: r => (isI n && isI j && isA b && isI i && isA a && akI (mK σ (vd a)) && akI (mK σ (vd b)) && decide (0 ≤ vi i) && decide (0 ≤ vi j) && decide (0 ≤ vi n) && decide ((vi i).toNatClampNeg + (vi n).toNatClampNeg ≤ mN σ (vd a)) && decide ((vi j).toNatClampNeg + (vi n).toNatClampNeg ≤ mN σ (vd b)) && Nat.ble r.length 8, ls, r, cpI σ (vd a) (vi i).toNatClampNeg (vd b) (vi j).toNatClampNeg (vi n).toNatClampNeg)
    | _ => (false, ls, st, σ)
  | .drem => match st with
    | a :: r => (isA a && decide (mK σ (vd a) = 1) && grG σ (vd a) && Nat.ble r.length 4, ls, .ref (mX σ) :: r, grS σ (vd a))
    | _ => (false, ls, st, σ)
  | .daload => match st with
    | a :: r => (isA a && decide (mP σ 19 0 100 = vr a ∨ 20 ≤ mK σ (vd a)), ls, .int (if mP σ 19 0 100 = vr a then 0 else Int32.ofNat (mN σ (vd a))) :: r, σ)
    | _ => (false, ls, st, σ)
  | .checkcast kd => match st with
    | a :: r => (isA a && decide (mK σ (vd a) = kd), ls, a :: r, σ)
    | _ => (false, ls, st, σ)
  | _ => (false, ls, st, σ)
/-- several of them -/
def stN (m : Nat) : Nat → Nat → List Value → List Value → Mm → Bool × Nat × List Value × List Value × Mm
  | 0, pc, ls, st, σ => (true, pc, ls, st, σ)
  | n + 1, pc, ls, st, σ =>
    let q := st1 (pg m pc).1 ls st σ
    let r := stN m n (pc + (pg m pc).2) q.2.1 q.2.2.1 q.2.2.2
    (q.1 && r.1, r.2)
/-- where an instruction leads: on; into a call (which, its locals or arguments, where it comes back, what lies below); out of the method -/
abbrev Ac : Type := (Nat × List Value × List Value × Mm) ⊕ ((Nat × List Value × Nat × List Value) ⊕ Option Value)
def rok (t : Nat) (v : Value) : Bool := match t with
  | 1 => isI v
  | 2 => isI v && decide (vi v = 0 ∨ vi v = 1)
  | 4 => isR v
  | 6 => isI v
  | _ => false
def iff2 (pc t : Nat) (ls r : List Value) (σ : Mm) (c : Prop) [Decidable c] : Option Ac := if c then some (.inl (t, ls, r, σ)) else some (.inl (pc + 3, ls, r, σ))
def act (m pc : Nat) (ls st : List Value) (σ : Mm) : Option Ac := match (pg m pc).1 with
  | .goto t => some (.inl (t.toNat, ls, st, σ))
  | .ifCond c t => match st with
    | v :: r => match isI v with
      | true => match c with
        | .eq => iff2 pc t.toNat ls r σ (vi v = 0)
        | .ne => iff2 pc t.toNat ls r σ (¬ vi v = 0)
        | .lt => iff2 pc t.toNat ls r σ (vi v < 0)
        | .ge => iff2 pc t.toNat ls r σ (0 ≤ vi v)
        | .gt => iff2 pc t.toNat ls r σ (0 < vi v)
        | .le => iff2 pc t.toNat ls r σ (vi v ≤ 0)
      | false => none
    | [] => none
  | .if_icmp c t => match st with
    | b :: a :: r => match isI a && isI b with
      | true => match c with
        | .eq => iff2 pc t.toNat ls r σ (vi a = vi b)
        | .ne => iff2 pc t.toNat ls r σ (¬ vi a = vi b)
        | .lt => iff2 pc t.toNat ls r σ (vi a < vi b)
        | .ge => iff2 pc t.toNat ls r σ (vi b ≤ vi a)
        | .gt => iff2 pc t.toNat ls r σ (vi b < vi a)
        | .le => iff2 pc t.toNat ls r σ (vi a ≤ vi b)
      | false => none
    | _ => none
  | .if_acmp c t => match st with
    | b :: a :: r => if isR a && isR b then (match c with
        | .eq => iff2 pc t.toNat ls r σ (vr a = vr b)
        | .ne => iff2 pc t.toNat ls r σ (¬ vr a = vr b)) else none
    | _ => none
  | .ifnull t => match st with
    | a :: r => if isR a then iff2 pc t.toNat ls r σ (vr a = none) else none
    | _ => none
  | .ifnonnull t => match st with
    | a :: r => if isR a then iff2 pc t.toNat ls r σ (¬ vr a = none) else none
    | _ => none
  | .tableswitch df lo hi offs => match st with
    | v :: r => match isI v with
      | true => if (vi v).toInt < lo ∨ hi < (vi v).toInt then some (.inl (df.toNat, ls, r, σ)) else
          (match offs.toList[((vi v).toInt - lo).toNat]? with
          | some t => some (.inl (t.toNat, ls, r, σ))
          | none => none)
      | false => none
    | _ => none
  | .invokevirtual k => some (.inr (.inl (k, (st.take (mna k)).reverse, pc + (pg m pc).2, st.drop (mna k))))
  | .athrow => match Nat.beq (mrt m) 6 with
    | true => some (.inr (.inr (some (.retAddr 7))))
    | false => none
  | .ireturn => match st with
    | [v] => match isI v && rok (mrt m) v with
      | true => some (.inr (.inr (some v)))
      | false => none
    | _ => none
  | .areturn => match st with
    | [v] => if isR v && rok (mrt m) v then some (.inr (.inr (some v))) else none
    | _ => none
  | .return_ => match st with
    | [] => match Nat.beq (mrt m) 0 with
      | true => some (.inr (.inr none))
      | false => none
    | _ => none
  | i => match st1 i ls st σ with
    | (true, ls', st', σ') => some (.inl (pc + (pg m pc).2, ls', st', σ'))
    | _ => none
/-- a call's locals out of its arguments -/
def clo (k : Nat) (as : List Value) : List Value := match Nat.beq k mTh with
  | true => match as with
    | [a, w] => [a, w, uu, uu, uu, uu]
    | _ => []
  | false => as ++ List.replicate (mml k - mna k) uu
/-- may it be called: a receiver of its kind, so many arguments, little below -/
def cok (k : Nat) (as r : List Value) (σ : Mm) : Bool := decide (as.length = mna k) && (Nat.ble r.length 4 || (Nat.ble r.length 8 && r.all (fun v => isI v || isR v))) && Nat.ble (mrt k) 5 && (match mrk k with
    | 0 => true
    | q => isA (as.headD uu) && decide (mK σ (vd (as.headD uu)) = q)) && (match Nat.beq k mTh with
    | true => (match as with
      | [_, w] => isL w
      | _ => false)
    | false => as.all (fun v => isI v || isR v))
def psh (v : Option Value) (r : List Value) : List Value := match v with
  | some x => x :: r
  | none => r
/-- the machine of this memory, with so many steps at most and so many frames above -/
def ex : Nat → Nat → Nat → Nat → List Value → List Value → Mm → Option (Option Value × Mm)
  | 0, _, _, _, _, _, _ => none
  | n + 1, d, m, pc, ls, st, σ => match act m pc ls st σ with
    | none => none
    | some (.inl q) => ex n d m q.1 q.2.1 q.2.2.1 q.2.2.2
    | some (.inr (.inr v)) => some (v, σ)
    | some (.inr (.inl q)) => match d with
      | 0 => none
      | d' + 1 => match cok q.1 q.2.1 q.2.2.2 σ with
        | false => none
        | true => match ex n d' q.1 0 (clo q.1 q.2.1) [] σ with
          | none => none
          | some r => ex n (d' + 1) m q.2.2.1 ls (psh r.1 q.2.2.2) r.2
