/-! ===== A MEMORY BY KINDS, AND WHAT THE INSTRUCTIONS DO TO IT (pure; nothing of the machine) =====
A memory: ints by (kind, address, field or place); references likewise; lengths of arrays; the kind of each address (0: none); the addresses made, the next address, slots used. -/
abbrev Mm : Type := (Nat → Nat → Nat → Int32) × (Nat → Nat → Nat → Option Nat) × (Nat → Nat) × (Nat → Nat) × List Nat × Nat × Nat
def mI (σ : Mm) : Nat → Nat → Nat → Int32 := σ.1
def mP (σ : Mm) : Nat → Nat → Nat → Option Nat := σ.2.1
def mN (σ : Mm) : Nat → Nat := σ.2.2.1
def mK (σ : Mm) : Nat → Nat := σ.2.2.2.1
def mL (σ : Mm) : List Nat := σ.2.2.2.2.1
def mX (σ : Mm) : Nat := σ.2.2.2.2.2.1
def mS (σ : Mm) : Nat := σ.2.2.2.2.2.2
def up3 {α : Type} (f : Nat → Nat → Nat → α) (c a k : Nat) (v : α) : Nat → Nat → Nat → α := fun c' a' k' => if c' = c ∧ a' = a ∧ k' = k then v else f c' a' k'
def sI (σ : Mm) (c a k : Nat) (v : Int32) : Mm := (up3 (mI σ) c a k v, σ.2)
def sP (σ : Mm) (c a k : Nat) (v : Option Nat) : Mm := (σ.1, up3 (mP σ) c a k v, σ.2.2)
/-- a new cell of kind kd at the next address: all zero, none; len: an array's length; sl: its slots -/
def nw (σ : Mm) (kd len sl : Nat) : Mm :=
  (fun c a k => if c = kd ∧ a = mX σ then 0 else mI σ c a k, fun c a k => if c = kd ∧ a = mX σ then none else mP σ c a k, va_up (mN σ) (mX σ) len, va_up (mK σ) (mX σ) kd, mL σ ++ [mX σ], mX σ + 1, mS σ + sl)
/-- of a value: is it an int, which; is it a reference or null, a reference, which -/
def isI : Value → Bool
  | .int _ => true
  | _ => false
def vi : Value → Int32
  | .int x => x
  | _ => 0
def isL : Value → Bool
  | .long _ => true
  | _ => false
def notL : Value → Bool
  | .long _ => false
  | _ => true
def vl : Value → Int64
  | .long x => x
  | _ => 0
def isR : Value → Bool
  | .null | .ref _ => true
  | _ => false
def isA : Value → Bool
  | .ref _ => true
  | _ => false
def vr : Value → Option Nat
  | .ref a => some a
  | _ => none
def vd : Value → Nat
  | .ref a => a
  | _ => 0
/-- an unset local -/
abbrev uu : Value := .retAddr 0
/-- an index in a row of n -/
def ix (i : Int32) (n : Nat) : Bool := decide (0 ≤ i) && decide (i.toNatClampNeg < n)
/-- kinds from 20 on are arrays: by kind 20 + 5 * site + (0 int, 1 boolean, 2 byte, 3 Object, 4 long) -/
def akI (kd : Nat) : Bool := decide (20 ≤ kd) && decide (kd % 5 = 0)
def akZ (kd : Nat) : Bool := decide (20 ≤ kd) && decide (kd % 5 = 1)
def akB (kd : Nat) : Bool := decide (20 ≤ kd) && decide (kd % 5 = 2)
def akO (kd : Nat) : Bool := decide (20 ≤ kd) && decide (kd % 5 = 3)
/-- what a configuration of one frame is: where, locals, operand stack, memory -/
abbrev Cf : Type := Nat × List Value × List Value × Mm
/-- the fields of a kind below 20 -/
def kn (kd : Nat) : Nat := match vwCl[kd - 1]? with
  | some r => r.2.2
  | none => 0
def kT (kd k : Nat) : String := match vwCl[kd - 1]? with
  | some r => (r.2.1 k).2.2.1
  | none => ""
def kfin (kd k : Nat) : Bool := match vwCl[kd - 1]? with
  | some r => (r.2.1 k).2.2.2
  | none => false
/-- is the field k of kind kd a reference, by its descriptor -/
def kr (kd k : Nat) : Bool := !((kT kd k) == "I" || (kT kd k) == "Z")
def kz (kd k : Nat) : Bool := (kT kd k) == "Z"
def lk : List (Nat × Nat × Instr) → Nat → Instr × Nat
  | [], _ => (.nop, 0)
  | (q, ln, i) :: r, pc => match Nat.beq q pc with
    | true => (i, ln)
    | false => lk r pc
