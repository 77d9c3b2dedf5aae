/-! The program as a pure machine: cells by small numbers, a step function, runs with fuel, and what a run ends with (E), which the rows of a method compute by equations. -/
/-- a method: its class's number, name, code, locals, what it returns, whether a local is long, how many parameters -/
abbrev Md : Type := Nat × MethodName × ByteArray × Nat × Option FieldType × Bool × Nat
/-- a cell: an array (what sort, length, contents) or an object (class, fields) -/
abbrev Cl : Type := (Nat × vp_A) ⊕ (Nat × (Nat → Value))
/-- cells, how many, slots made -/
abbrev Wd : Type := (Nat → Cl) × Nat × Nat
abbrev Ot : Type := Option Value × Wd
abbrev Act : Type := Option ((Nat × List Value × List Value × Wd) ⊕ Ot ⊕ (Nat × Md × List Value × Nat × List Value))
def nx (pc : Nat) (L st : List Value) (w : Wd) : Act := some (.inl (pc, L, st, w))
def rt (v : Option Value) (w : Wd) : Act := some (.inr (.inl (v, w)))
def ca (r : Nat) (md : Md) (as : List Value) (pc : Nat) (st : List Value) : Act := some (.inr (.inr (r, md, as, pc, st)))
def iA (t n : Nat) (f : Nat → Int32) : Cl := .inl (t, n, .inl f)
def jA (n : Nat) (f : Nat → Int64) : Cl := .inl (4, n, .inr (.inl f))
def rA (t n : Nat) (f : Nat → Option Nat) : Cl := .inl (t, n, .inr (.inr (.inr (.inr f))))
def ob (c : Nat) (f : Nat → Value) : Cl := .inr (c, f)
/-- nothing is there -/
def em : Cl := .inr (999, fun _ => .null)
/-- the sort of an array: 0 int, 1 byte, 2 char, 3 boolean, 4 long, 5 rows of ints, 6 rows of longs, 7 of pears; 10 ints, 11 bytes that nobody writes; 99 none -/
def kd (c : Cl) : Nat := match c with
  | .inl (t, _, .inl _) => if t < 4 ∨ t = 10 ∨ t = 11 then t else 98
  | .inl (t, _, .inr (.inl _)) => if t = 4 then 4 else 98
  | .inl (t, _, .inr (.inr (.inr (.inr _)))) => if t = 5 ∨ t = 6 ∨ t = 7 then t else 98
  | _ => 99
/-- the class of an object (0 .. 12 own, 20 a text) -/
def cls (c : Cl) : Nat := match c with
  | .inr (c, _) => c
  | .inl _ => 99
def fv (c : Cl) (k : Nat) : Value := match c with
  | .inr (_, f) => f k
  | .inl _ => .null
def al (c : Cl) : Nat := match c with
  | .inl (_, n, _) => n
  | .inr _ => 0
def ai (c : Cl) (j : Nat) : Int32 := match c with
  | .inl (_, _, .inl f) => f j
  | _ => 0
def aj (c : Cl) (j : Nat) : Int64 := match c with
  | .inl (_, _, .inr (.inl f)) => f j
  | _ => 0
def aq (c : Cl) (j : Nat) : Value := match c with
  | .inl (_, _, .inr (.inr (.inr (.inr f)))) => va_rf (f j)
  | _ => .null
def sti (c : Cl) (j : Nat) (x : Int32) : Cl := match c with
  | .inl (t, n, .inl f) => .inl (t, n, .inl (upd f j x))
  | c => c
def stj (c : Cl) (j : Nat) (x : Int64) : Cl := match c with
  | .inl (t, n, .inr (.inl f)) => .inl (t, n, .inr (.inl (vp_updL f j x)))
  | c => c
def stq (c : Cl) (j : Nat) (x : Nat) : Cl := match c with
  | .inl (t, n, .inr (.inr (.inr (.inr f)))) => .inl (t, n, .inr (.inr (.inr (.inr (va_up f j (some x))))))
  | c => c
def stf (c : Cl) (k : Nat) (v : Value) : Cl := match c with
  | .inr (c, f) => .inr (c, updV f k v)
  | c => c
/-- an array's contents copied into another's -/
def cpi (c d : Cl) (sp dp n : Nat) : Cl := match c, d with
  | .inl (_, _, .inl f), .inl (t, m, .inl g) => .inl (t, m, .inl (va_cpy f g sp dp n))
  | .inl (_, _, .inr (.inl f)), .inl (t, m, .inr (.inl g)) => .inl (t, m, .inr (.inl (va_cpy f g sp dp n)))
  | _, d => d
def uph (h : Nat → Cl) (a : Nat) (c : Cl) : Nat → Cl := fun q => if q = a then c else h q
/-- is i a place of a row of n -/
def ix (i : Int32) (n : Nat) : Bool := decide (¬ (i < 0 ∨ n ≤ i.toNatClampNeg))
def cx (i : Int32) : Nat := i.toNatClampNeg
def st2 (v : Option Value) (st : List Value) : List Value := match v with
  | some x => x :: st
  | none => st
/-- the locals that the arguments fill -/
def ents : List Value → List Value
  | [] => []
  | .long x :: vs => .long x :: .null :: ents vs
  | .double x :: vs => .double x :: .null :: ents vs
  | v :: vs => v :: ents vs
def ent (n : Nat) (as : List Value) : List Value := ents as ++ List.replicate (n - (ents as).length) .null
/-- m rows of k items at n + 1, n + 2 .. -/
def mrows (h : Nat → Cl) (n m : Nat) (c : Cl) (o : Cl) : Nat → Cl := fun q => if q = n then o else if n < q ∧ q ≤ n + m then c else h q
/-- is a value a plain one of one word -/
def cat1 (v : Value) : Bool := match v with
  | .int _ => true
  | .ref _ => true
  | _ => false
