/-! The program as a pure machine: cells by small numbers, a step function, runs with fuel, and what a run ends with (E), which the rows of a method compute by equations. -/
/-- a method: its class's number, name, code, locals, what it returns, whether a local is long, how many parameters -/
abbrev Md : Type := Nat × MethodName × ByteArray × Nat × Option FieldType × Bool × Nat
/-- a cell: an array (what sort, length, contents) or an object (class, fields) -/
abbrev Cl : Type := (Nat × vp_A) ⊕ (Nat × (Nat → Value))
/-- cells, how many, slots made -/
abbrev Wd : Type := (Nat → Cl) × Nat × Nat
abbrev Ot : Type := Option Value × Wd
abbrev Act : Type := Option ((Nat × List Value × List Value × Wd) ⊕ Ot ⊕ (Nat × Md × List Value × Nat × List Value))
def nx (pc : Nat) (L st : List Value) (w : Wd) : Act := some (.inl (pc, L, st, w))
def rt (v : Option Value) (w : Wd) : Act := some (.inr (.inl (v, w)))
def ca (r : Nat) (md : Md) (as : List Value) (pc : Nat) (st : List Value) : Act := some (.inr (.inr (r, md, as, pc, st)))
def iA (t n : Nat) (f : Nat → Int32) : Cl := .inl (t, n, .inl f)
def jA (n : Nat) (f : Nat → Int64) : Cl := .inl (4, n, .inr (.inl f))
def rA (t n : Nat) (f : Nat → Option Nat) : Cl := .inl (t, n, .inr (.inr (.inr (.inr f))))
def ob (c : Nat) (f : Nat → Value) : Cl := .inr (c, f)
/-- nothing is there -/
def em : Cl := .inr (999, fun _ => .null)
/-- the sort of an array: 0 int, 1 byte, 2 char, 3 boolean, 4 long, 5 rows of ints, 6 rows of longs, 7 of pears; 10 ints, 11 bytes that nobody writes; 99 none -/
def kd (c : Cl) : Nat := match c with
  | .inl (t, _, .inl _) => if t < 4 ∨ t = 10 ∨ t = 11 then t else 98
  | .inl (t, _, .inr (.inl _)) => if t = 4 then 4 else 98
  | .inl (t, _, .inr (.inr (.inr (.inr _)))) => if t = 5 ∨ t = 6 ∨ t = 7 then t else 98
  | _ => 99
/-- the class of an object (0 .. 12 own, 20 a text) -/
def cls (c : Cl) : Nat := match c with
  | .inr (c, _) => c
  | .inl _ => 99
def fv (c : Cl) (k : Nat) : Value := match c with
  | .inr (_, f) => f k
  | .inl _ => .null
def al (c : Cl) : Nat := match c with
  | .inl (_, n, _) => n
  | .inr _ => 0
def ai (c : Cl) (j : Nat) : Int32 := match c with
  | .inl (_, _, .inl f) => f j
  | _ => 0
def aj (c : Cl) (j : Nat) : Int64 := match c with
  | .inl (_, _, .inr (.inl f)) => f j
  | _ => 0
def aq (c : Cl) (j : Nat) : Value := match c with
  | .inl (_, _, .inr (.inr (.inr (.inr f)))) => va_rf (f j)
  | _ => .null
def sti (c : Cl) (j : Nat) (x : Int32) : Cl := match c with
  | .inl (t, n, .inl f) => .inl (t, n, .inl (upd f j x))
  | c => c
def stj (c : Cl) (j : Nat) (x : Int64) : Cl := match c with
  | .inl (t, n, .inr (.inl f)) => .inl (t, n, .inr (.inl (vp_updL f j x)))
  | c => c
def stq (c : Cl) (j : Nat) (x : Nat) : Cl := match c with
  | .inl (t, n, .inr (.inr (.inr (.inr f)))) => .inl (t, n, .inr (.inr (.inr (.inr (va_up f j (some x))))))
  | c => c
def stf (c : Cl) (k : Nat) (v : Value) : Cl := match c with
  | .inr (c, f) => .inr (c, updV f k v)
  | c => c
/-- an array's contents copied into another's -/
def cpi (c d : Cl) (sp dp n : Nat) : Cl := match c, d with
  | .inl (_, _, .inl f), .inl (t, m, .inl g) => .inl (t, m, .inl (va_cpy f g sp dp n))
  | .inl (_, _, .inr (.inl f)), .inl (t, m, .inr (.inl g)) => .inl (t, m, .inr (.inl (va_cpy f g sp dp n)))
  | _, d => d
def uph (h : Nat → Cl) (a : Nat) (c : Cl) : Nat → Cl := fun q => if q = a then c else h q
/-- is i a place of a row of n -/
def ix (i : Int32) (n : Nat) : Bool := decide (¬ (i < 0 ∨ n ≤ i.toNatClampNeg))
def cx (i : Int32) : Nat := i.toNatClampNeg
def st2 (v : Option Value) (st : List Value) : List Value := match v with
  | some x => x :: st
  | none => st
/-- the locals that the arguments fill -/
def ents : List Value → List Value
  | [] => []
  | .long x :: vs => .long x :: .null :: ents vs
  | .double x :: vs => .double x :: .null :: ents vs
  | v :: vs => v :: ents vs
def ent (n : Nat) (as : List Value) : List Value := ents as ++ List.replicate (n - (ents as).length) .null
/-- m rows of k items at n + 1, n + 2 .. -/
def mrows (h : Nat → Cl) (n m : Nat) (c : Cl) (o : Cl) : Nat → Cl := fun q => if q = n then o else if n < q ∧ q ≤ n + m then c else h q
/-- is a value a plain one of one word -/
def cat1 (v : Value) : Bool := match v with
  | .int _ => true
  | .ref _ => true
  | _ => false
def ln (len k : Nat) (a : Act) : Act := if len = k then a else none
/-- where a jump goes -/
def jt (pc : Nat) (off : Int) : Nat := ((pc : Int) + off).toNat
def jok (pc : Nat) (off : Int) : Bool := decide (0 ≤ (pc : Int) + off)
def s_bin (f : Int32 → Int32 → Int32) (pc : Nat) (L st : List Value) (w : Wd) : Act := match st with
  | .int y :: .int x :: r => nx (pc + 1) L (.int (f x y) :: r) w
  | _ => none
def s_div (f : Int32 → Int32 → Int32) (pc : Nat) (L st : List Value) (w : Wd) : Act := match st with
  | .int y :: .int x :: r => if y = 0 then none else nx (pc + 1) L (.int (f x y) :: r) w
  | _ => none
def s_un (f : Int32 → Int32) (pc : Nat) (L st : List Value) (w : Wd) : Act := match st with
  | .int x :: r => nx (pc + 1) L (.int (f x) :: r) w
  | _ => none
def s_bil (f : Int64 → Int64 → Int64) (pc : Nat) (L st : List Value) (w : Wd) : Act := match st with
  | .long y :: .long x :: r => nx (pc + 1) L (.long (f x y) :: r) w
  | _ => none
def s_load (k len pc : Nat) (L st : List Value) (w : Wd) : Act := match L[k]? with
  | some (.int x) => nx (pc + len) L (.int x :: st) w
  | _ => none
def s_aload (k len pc : Nat) (L st : List Value) (w : Wd) : Act := match L[k]? with
  | some (.ref x) => nx (pc + len) L (.ref x :: st) w
  | _ => none
def s_lload (k len pc : Nat) (L st : List Value) (w : Wd) : Act := match L[k]? with
  | some (.long x) => nx (pc + len) L (.long x :: st) w
  | _ => none
/-- no long stands just ahead of a local -/
def noL (L : List Value) (k : Nat) : Bool := match k with
  | 0 => true
  | k + 1 => match L[k]? with
    | some (.long _) => false
    | some (.double _) => false
    | _ => true
def s_store (md : Md) (k len pc : Nat) (L st : List Value) (w : Wd) : Act := match st with
  | .int x :: r => if (md.2.2.2.2.2.1 = false ∨ noL L k = true) ∧ k < L.length then nx (pc + len) (L.set k (.int x)) r w else none
  | _ => none
def s_astore (md : Md) (k len pc : Nat) (L st : List Value) (w : Wd) : Act := match st with
  | .ref x :: r => if (md.2.2.2.2.2.1 = false ∨ noL L k = true) ∧ k < L.length then nx (pc + len) (L.set k (.ref x)) r w else none
  | _ => none
def s_iinc (md : Md) (k : Nat) (n : Int) (pc : Nat) (L st : List Value) (w : Wd) : Act := match L[k]? with
  | some (.int x) => if (md.2.2.2.2.2.1 = false ∨ noL L k = true) ∧ k < L.length then nx (pc + 3) (L.set k (.int (x + Int32.ofInt n))) st w else none
  | _ => none
def s_if (c : Int32 → Int32 → Bool) (off : Int) (pc : Nat) (L st : List Value) (w : Wd) : Act := match st with
  | .int x :: r => if jok pc off then (if c x 0 then nx (jt pc off) L r w else nx (pc + 3) L r w) else none
  | _ => none
def s_cmp (c : Int32 → Int32 → Bool) (off : Int) (pc : Nat) (L st : List Value) (w : Wd) : Act := match st with
  | .int y :: .int x :: r => if jok pc off then (if c x y then nx (jt pc off) L r w else nx (pc + 3) L r w) else none
  | _ => none
def s_get (md : Md) (i pc : Nat) (L st : List Value) (w : Wd) : Act := match st, fres md.1 i with
  | .ref a :: r, some (ci, k) => if cls (w.1 a) = ci ∧ (k < fnum ci ∨ ci = 20) then nx (pc + 3) L (fv (w.1 a) k :: r) w else none
  | _, _ => none
def s_put (md : Md) (i pc : Nat) (L st : List Value) (w : Wd) : Act := match st, fres md.1 i with
  | v :: .ref a :: r, some (ci, k) => if cls (w.1 a) = ci ∧ k < fnum ci ∧ narrow (fty ci k) v = v ∧ fits (fty ci k) v = true ∧ (ffin ci k = true → md.2.1.name = "<init>" ∧ md.1 = ci) then nx (pc + 3) L r (uph w.1 a (stf (w.1 a) k v), w.2) else none
  | _, _ => none
def s_ald (ok : Nat → Bool) (g : Cl → Nat → Value) (pc : Nat) (L st : List Value) (w : Wd) : Act := match st with
  | .int i :: .ref a :: r => if ok (kd (w.1 a)) = true ∧ ix i (al (w.1 a)) = true then nx (pc + 1) L (g (w.1 a) (cx i) :: r) w else none
  | _ => none
def s_ast (t : Nat) (nar : Int32 → Int32) (pc : Nat) (L st : List Value) (w : Wd) : Act := match st with
  | .int x :: .int i :: .ref a :: r => if kd (w.1 a) = t ∧ ix i (al (w.1 a)) = true then nx (pc + 1) L r (uph w.1 a (sti (w.1 a) (cx i) (nar x)), w.2) else none
  | _ => none
def s_bast (pc : Nat) (L st : List Value) (w : Wd) : Act := match st with
  | .int x :: .int i :: .ref a :: r => if kd (w.1 a) = 1 then s_ast 1 (vp_nar .byte) pc L (.int x :: .int i :: .ref a :: r) w else s_ast 3 (vp_nar .boolean) pc L (.int x :: .int i :: .ref a :: r) w
  | _ => none
def s_last (pc : Nat) (L st : List Value) (w : Wd) : Act := match st with
  | .long x :: .int i :: .ref a :: r => if kd (w.1 a) = 4 ∧ ix i (al (w.1 a)) = true then nx (pc + 1) L r (uph w.1 a (stj (w.1 a) (cx i) x), w.2) else none
  | _ => none
def isPear (c : Nat) : Bool := [0, 2, 3, 4, 5, 7, 9].contains c
def s_aast (pc : Nat) (L st : List Value) (w : Wd) : Act := match st with
  | .ref v :: .int i :: .ref a :: r => if kd (w.1 a) = 7 ∧ ix i (al (w.1 a)) = true ∧ isPear (cls (w.1 v)) = true then nx (pc + 1) L r (uph w.1 a (stq (w.1 a) (cx i) v), w.2) else none
  | _ => none
def s_alen (pc : Nat) (L st : List Value) (w : Wd) : Act := match st with
  | .ref a :: r => if kd (w.1 a) < 12 then nx (pc + 1) L (.int (Int32.ofNat (al (w.1 a))) :: r) w else none
  | _ => none
/-- an array of zeros -/
def zA (t n : Nat) : Cl := if t = 4 then jA n (fun _ => 0) else iA t n (fun _ => 0)
def atag (a : ArrayType) : Nat := match a with
  | .int => 0
  | .byte => 1
  | .char => 2
  | .boolean => 3
  | .long => 4
  | _ => 99
def s_newa (a : ArrayType) (pc : Nat) (L st : List Value) (w : Wd) : Act := match st with
  | .int n :: r => if atag a < 5 ∧ ¬ n < 0 ∧ cx n ≤ 1000 then nx (pc + 2) L (.ref w.2.1 :: r) (uph w.1 w.2.1 (zA (atag a) (cx n)), w.2.1 + 1, w.2.2 + cx n) else none
  | _ => none
def s_newq (md : Md) (i pc : Nat) (L st : List Value) (w : Wd) : Act := match st with
  | .int n :: r => if nres md.1 i = some 5 ∧ ¬ n < 0 ∧ cx n ≤ 1000 then nx (pc + 3) L (.ref w.2.1 :: r) (uph w.1 w.2.1 (rA 7 (cx n) (fun _ => none)), w.2.1 + 1, w.2.2 + cx n) else none
  | _ => none
/-- the places of the rows of a row of rows -/
def rows0 (n m : Nat) : Nat → Option Nat := fun i => if i < m then some (n + 1 + i) else none
def s_newm (md : Md) (i pc : Nat) (L st : List Value) (w : Wd) : Act := match st with
  | .int k :: .int n :: r => if ¬ n < 0 ∧ ¬ k < 0 ∧ cx n ≤ 1000 ∧ cx k ≤ 1000 then (match nres md.1 i with
    | some 105 => nx (pc + 4) L (.ref w.2.1 :: r) (mrows w.1 w.2.1 (cx n) (zA 0 (cx k)) (rA 5 (cx n) (rows0 w.2.1 (cx n))), w.2.1 + 1 + cx n, w.2.2 + cx n + cx n * cx k)
    | some 106 => nx (pc + 4) L (.ref w.2.1 :: r) (mrows w.1 w.2.1 (cx n) (zA 4 (cx k)) (rA 6 (cx n) (rows0 w.2.1 (cx n))), w.2.1 + 1 + cx n, w.2.2 + cx n + cx n * cx k)
    | _ => none) else none
  | _ => none
def s_new (md : Md) (i pc : Nat) (L st : List Value) (w : Wd) : Act := match nres md.1 i with
  | some ci => if ci < 13 then nx (pc + 3) L (.ref w.2.1 :: st) (uph w.1 w.2.1 (ob ci (fun k => defaultValue (fty ci k))), w.2.1 + 1, w.2.2 + fnum ci) else none
  | none => none
def s_null (b : Bool) (off : Int) (pc : Nat) (L st : List Value) (w : Wd) : Act := match st with
  | .null :: r => if jok pc off then (if b then nx (jt pc off) L r w else nx (pc + 3) L r w) else none
  | .ref _ :: r => if jok pc off then (if b then nx (pc + 3) L r w else nx (jt pc off) L r w) else none
  | _ => none
/-- where a switch goes -/
def tsw (dflt lo hi : Int) (offs : Array Int) (x : Int32) : Option Int := if x.toInt < lo ∨ hi < x.toInt then some dflt else offs[(x.toInt - lo).toNat]?
def s_tsw (dflt lo hi : Int) (offs : Array Int) (pc : Nat) (L st : List Value) (w : Wd) : Act := match st with
  | .int x :: r => (match tsw dflt lo hi offs x with
    | some off => if jok pc off then nx (jt pc off) L r w else none
    | none => none)
  | _ => none
def s_lsw (dflt : Int) (ps : Array (Int × Int)) (pc : Nat) (L st : List Value) (w : Wd) : Act := match st with
  | .int x :: r => if (ps.toList.zip (ps.toList.drop 1)).all (fun (a, next) => a.1 < next.1) = true ∧ jok pc (Op.lookupswitch.offset ps.toList dflt x.toInt) = true then nx (jt pc (Op.lookupswitch.offset ps.toList dflt x.toInt)) L r w else none
  | _ => none
/-- the rank that a call has: as told, or by how deep a text is nested -/
def rkc (rr : Nat) (as : List Value) : Nat := if rr < 1000 then rr else match as with
  | [_, .int x] => rr - 1000 + 3 * (5 - cx x)
  | _ => 0
def argsOk (n : Nat) (as : List Value) : Bool := (as.length == n) && as.all (fun v => match v with
  | .int _ => true
  | .ref _ => true
  | .long _ => true
  | .retAddr _ => true
  | _ => false)
def lngOk (b : Bool) (as : List Value) : Bool := b || as.all (fun v => match v with
  | .long _ => false
  | _ => true)
def s_callV (r : Nat) (md : Md) (i pc : Nat) (st : List Value) (w : Wd) (lo hi : Nat) : Act := match cnp md.1 i with
  | some np => (match st.drop np with
    | .ref b :: rest => (match cres md.1 i (if hi = 2 then cls (w.1 b) else 0) with
      | some (k, rr, n, md') => if lo ≤ k ∧ k ≤ hi ∧ n = np ∧ np ≤ st.length ∧ rest.length ≤ 4 ∧ rkc rr (.ref b :: (st.take np).reverse) < r ∧ argsOk (np + 1) (.ref b :: (st.take np).reverse) = true ∧ lngOk md'.2.2.2.2.2.1 (st.take np) = true ∧ (ents (.ref b :: (st.take np).reverse)).length ≤ md'.2.2.2.1 ∧ (k = 6 → cls (w.1 b) < 13) then ca (rkc rr (.ref b :: (st.take np).reverse)) md' (.ref b :: (st.take np).reverse) (pc + 3) rest else none
      | none => none)
    | _ => none)
  | none => none
def s_callS (r : Nat) (md : Md) (i pc : Nat) (st : List Value) (_ : Wd) : Act := match cnp md.1 i, cres md.1 i 0 with
  | some np, some (k, rr, n, md') => if k = 3 ∧ n = np ∧ np ≤ st.length ∧ (st.drop np).length ≤ 4 ∧ rkc rr (st.take np).reverse < r ∧ argsOk np (st.take np).reverse = true ∧ lngOk md'.2.2.2.2.2.1 (st.take np) = true ∧ (ents (st.take np).reverse).length ≤ md'.2.2.2.1 then ca (rkc rr (st.take np).reverse) md' (st.take np).reverse (pc + 3) (st.drop np) else none
  | _, _ => none
def cpok (c d : Cl) (sp dp n : Int32) : Prop := ¬ sp < 0 ∧ ¬ dp < 0 ∧ ¬ n < 0 ∧ cx sp + cx n ≤ al c ∧ cx dp + cx n ≤ al d ∧ ((kd c = 0 ∧ kd d = 0) ∨ (kd c = 4 ∧ kd d = 4) ∨ (kd c = 1 ∧ kd d = 1 ∧ ∀ i : Nat, i < cx n → fits .byte (.int (ai c (cx sp + i))) = true))
noncomputable def s_copy (r pc : Nat) (L st : List Value) (w : Wd) : Act := match st with
  | .int n :: .int dp :: .ref d :: .int sp :: .ref c :: rest => @ite _ (cpok (w.1 c) (w.1 d) sp dp n ∧ rest.length ≤ 4 ∧ 1 ≤ r) (Classical.propDecidable _) (nx (pc + 3) L rest (uph w.1 d (cpi (w.1 c) (w.1 d) (cx sp) (cx dp) (cx n)), w.2)) none
  | _ => none
noncomputable def s_clone (r pc : Nat) (L st : List Value) (w : Wd) : Act := match st with
  | .ref c :: rest => @ite _ (kd (w.1 c) = 1 ∧ rest.length ≤ 4 ∧ 1 ≤ r ∧ ∀ i : Nat, i < al (w.1 c) → fits .byte (.int (ai (w.1 c) i)) = true) (Classical.propDecidable _) (nx (pc + 3) L (.ref w.2.1 :: rest) (uph w.1 w.2.1 (w.1 c), w.2.1 + 1, w.2.2 + al (w.1 c))) none
  | _ => none
def s_mm (f : Int32 → Int32 → Int32) (r pc : Nat) (L st : List Value) (w : Wd) : Act := match st with
  | .int y :: .int x :: rest => if rest.length ≤ 4 ∧ 1 ≤ r then nx (pc + 3) L (.int (f x y) :: rest) w else none
  | _ => none
def s_iret (md : Md) (st : List Value) (w : Wd) : Act := match st, md.2.2.2.2.1 with
  | [.int x], some ty => if narrow ty (.int x) = .int x then rt (some (.int x)) w else none
  | _, _ => none
def s_lret (md : Md) (st : List Value) (w : Wd) : Act := match st with
  | [.long x] => if md.2.2.2.2.1 = some .long then rt (some (.long x)) w else none
  | _ => none
def isRefT (t : Option FieldType) : Bool := match t with
  | some (.object _) => true
  | some (.array _) => true
  | _ => false
def s_aret (md : Md) (st : List Value) (w : Wd) : Act := match st with
  | [.ref x] => if isRefT md.2.2.2.2.1 = true then rt (some (.ref x)) w else none
  | _ => none
def s_vret (md : Md) (st : List Value) (w : Wd) : Act := match st with
  | [] => if md.2.2.2.2.1 = none then rt none w else none
  | _ => none
def c_eq (x y : Int32) : Bool := decide (x = y)
def c_ne (x y : Int32) : Bool := decide (¬ x = y)
def c_lt (x y : Int32) : Bool := decide (x < y)
def c_ge (x y : Int32) : Bool := decide (y ≤ x)
def c_gt (x y : Int32) : Bool := decide (y < x)
def c_le (x y : Int32) : Bool := decide (x ≤ y)
noncomputable def stpI (r : Nat) (md : Md) (pc : Nat) (L st : List Value) (w : Wd) (i : Instr) (len : Nat) : Act := match i with
  | .iconst n => ln len 1 (nx (pc + 1) L (.int (Int32.ofInt n) :: st) w)
  | .bipush n => ln len 2 (nx (pc + 2) L (.int (Int8.ofInt n).toInt32 :: st) w)
  | .sipush n => ln len 3 (nx (pc + 3) L (.int (Int16.ofInt n).toInt32 :: st) w)
  | .lconst n => ln len 1 (nx (pc + 1) L (.long (Int64.ofNat (n : Nat)) :: st) w)
  | .iload_n k => ln len 1 (s_load k 1 pc L st w)
  | .iload k => ln len 2 (s_load k 2 pc L st w)
  | .aload_n k => ln len 1 (s_aload k 1 pc L st w)
  | .aload k => ln len 2 (s_aload k 2 pc L st w)
  | .lload_n k => ln len 1 (s_lload k 1 pc L st w)
  | .istore_n k => ln len 1 (s_store md k 1 pc L st w)
  | .istore k => ln len 2 (s_store md k 2 pc L st w)
  | .astore_n k => ln len 1 (s_astore md k 1 pc L st w)
  | .astore k => ln len 2 (s_astore md k 2 pc L st w)
  | .iinc k n => ln len 3 (s_iinc md k n pc L st w)
  | .iadd => ln len 1 (s_bin (· + ·) pc L st w)
  | .isub => ln len 1 (s_bin (· - ·) pc L st w)
  | .imul => ln len 1 (s_bin (· * ·) pc L st w)
  | .iand => ln len 1 (s_bin (· &&& ·) pc L st w)
  | .ior => ln len 1 (s_bin (· ||| ·) pc L st w)
  | .ixor => ln len 1 (s_bin (· ^^^ ·) pc L st w)
  | .ishl => ln len 1 (s_bin (fun x y => x <<< (y &&& 31)) pc L st w)
  | .ishr => ln len 1 (s_bin (fun x y => x >>> (y &&& 31)) pc L st w)
  | .iushr => ln len 1 (s_bin (fun x y => (x.toUInt32 >>> (y.toUInt32 &&& Int32.toUInt32 31)).toInt32) pc L st w)
  | .idiv => ln len 1 (s_div (· / ·) pc L st w)
  | .irem => ln len 1 (s_div (fun x y => x - x / y * y) pc L st w)
  | .ineg => ln len 1 (s_un (fun x => -x) pc L st w)
  | .i2b => ln len 1 (s_un (fun x => x.toInt8.toInt32) pc L st w)
  | .i2s => ln len 1 (s_un (fun x => x.toInt16.toInt32) pc L st w)
  | .i2c => ln len 1 (s_un (fun x => (x.toUInt32 % 65536).toInt32) pc L st w)
  | .land => ln len 1 (s_bil (· &&& ·) pc L st w)
  | .lor => ln len 1 (s_bil (· ||| ·) pc L st w)
  | .i2l => ln len 1 (match st with
    | .int x :: r => nx (pc + 1) L (.long x.toInt64 :: r) w
    | _ => none)
  | .l2i => ln len 1 (match st with
    | .long x :: r => nx (pc + 1) L (.int x.toInt32 :: r) w
    | _ => none)
  | .lshl => ln len 1 (match st with
    | .int y :: .long x :: r => nx (pc + 1) L (.long (x <<< (y.toInt64 &&& 63)) :: r) w
    | _ => none)
  | .lcmp => ln len 1 (match st with
    | .long y :: .long x :: r => nx (pc + 1) L (.int (lg_cmp x y) :: r) w
    | _ => none)
  | .dup => ln len 1 (match st with
    | v :: r => if cat1 v = true then nx (pc + 1) L (v :: v :: r) w else none
    | _ => none)
  | .dup2 => ln len 1 (match st with
    | v :: u :: r => if cat1 v = true ∧ cat1 u = true then nx (pc + 1) L (v :: u :: v :: u :: r) w else none
    | _ => none)
  | .pop => ln len 1 (match st with
    | v :: r => if cat1 v = true then nx (pc + 1) L r w else none
    | _ => none)
  | .ifCond .eq off => ln len 3 (s_if c_eq off pc L st w)
  | .ifCond .ne off => ln len 3 (s_if c_ne off pc L st w)
  | .ifCond .lt off => ln len 3 (s_if c_lt off pc L st w)
  | .ifCond .ge off => ln len 3 (s_if c_ge off pc L st w)
  | .ifCond .gt off => ln len 3 (s_if c_gt off pc L st w)
  | .ifCond .le off => ln len 3 (s_if c_le off pc L st w)
  | .if_icmp .eq off => ln len 3 (s_cmp c_eq off pc L st w)
  | .if_icmp .ne off => ln len 3 (s_cmp c_ne off pc L st w)
  | .if_icmp .lt off => ln len 3 (s_cmp c_lt off pc L st w)
  | .if_icmp .ge off => ln len 3 (s_cmp c_ge off pc L st w)
  | .if_icmp .gt off => ln len 3 (s_cmp c_gt off pc L st w)
  | .if_icmp .le off => ln len 3 (s_cmp c_le off pc L st w)
  | .goto off => ln len 3 (if jok pc off then nx (jt pc off) L st w else none)
  | .ifnull off => ln len 3 (s_null true off pc L st w)
  | .ifnonnull off => ln len 3 (s_null false off pc L st w)
  | .getfield i => ln len 3 (s_get md i pc L st w)
  | .putfield i => ln len 3 (s_put md i pc L st w)
  | .getstatic i => ln len 3 (match sres md.1 i with
    | some v => nx (pc + 3) L (v :: st) w
    | none => none)
  | .ldc i => ln len 2 (match kres md.1 i, xres md.1 i with
    | some (.int v), _ => nx (pc + 2) L (.int v :: st) w
    | none, some a => nx (pc + 2) L (.ref a :: st) w
    | _, _ => none)
  | .ldc_w i => ln len 3 (match kres md.1 i with
    | some (.int v) => nx (pc + 3) L (.int v :: st) w
    | _ => none)
  | .ldc2_w i => ln len 3 (match kres md.1 i with
    | some (.long v) => nx (pc + 3) L (.long v :: st) w
    | _ => none)
  | .iaload => ln len 1 (s_ald (fun k => k == 0 || k == 10) (fun c j => .int (ai c j)) pc L st w)
  | .baload => ln len 1 (s_ald (fun k => k == 1 || k == 3 || k == 11) (fun c j => .int (ai c j)) pc L st w)
  | .caload => ln len 1 (s_ald (fun k => k == 2) (fun c j => .int (ai c j)) pc L st w)
  | .laload => ln len 1 (s_ald (fun k => k == 4) (fun c j => .long (aj c j)) pc L st w)
  | .aaload => ln len 1 (s_ald (fun k => k == 5 || k == 6 || k == 7) aq pc L st w)
  | .iastore => ln len 1 (s_ast 0 (fun x => x) pc L st w)
  | .bastore => ln len 1 (s_bast pc L st w)
  | .castore => ln len 1 (s_ast 2 (vp_nar .char) pc L st w)
  | .lastore => ln len 1 (s_last pc L st w)
  | .aastore => ln len 1 (s_aast pc L st w)
  | .arraylength => ln len 1 (s_alen pc L st w)
  | .newarray a => ln len 2 (s_newa a pc L st w)
  | .anewarray i => ln len 3 (s_newq md i pc L st w)
  | .multianewarray i d => ln len 4 (if d = 2 then s_newm md i pc L st w else none)
  | .new i => ln len 3 (s_new md i pc L st w)
  | .tableswitch dflt lo hi offs => s_tsw dflt lo hi offs pc L st w
  | .lookupswitch dflt ps => s_lsw dflt ps pc L st w
  | .invokevirtual i => ln len 3 (if isClone md.1 i then s_clone r pc L st w else s_callV r md i pc st w 0 2)
  | .invokespecial i => ln len 3 (if isObj md.1 i then (match st with
    | .ref _ :: rest => if rest.length ≤ 4 ∧ 1 ≤ r then nx (pc + 3) L rest w else none
    | _ => none) else s_callV r md i pc st w 4 6)
  | .invokestatic i => ln len 3 (if isCopy md.1 i then s_copy r pc L st w else if isMax md.1 i then s_mm (fun x y => if x < y then y else x) r pc L st w else if isMin md.1 i then s_mm (fun x y => if y < x then y else x) r pc L st w else s_callS r md i pc st w)
  | .checkcast i => ln len 3 (match st with
    | .ref a :: rest => if nres md.1 i = some 101 ∧ kd (w.1 a) = 1 then nx (pc + 3) L (.ref a :: rest) w else none
    | _ => none)
  | .ireturn => ln len 1 (s_iret md st w)
  | .lreturn => ln len 1 (s_lret md st w)
  | .areturn => ln len 1 (s_aret md st w)
  | .return_ => ln len 1 (s_vret md st w)
  | _ => none
noncomputable def stp (r : Nat) (md : Md) (pc : Nat) (L st : List Value) (w : Wd) : Act := match decode md.2.2.1 pc with
  | .ok (i, len) => stpI r md pc L st w i len
  | .error _ => none
noncomputable def ex : Nat → Nat → Md → Nat → List Value → List Value → Wd → Option Ot
  | 0, _, _, _, _, _, _ => none
  | f + 1, r, md, pc, L, st, w => match stp r md pc L st w with
    | none => none
    | some (.inl (pc', L', st', w')) => ex f r md pc' L' st' w'
    | some (.inr (.inl o)) => some o
    | some (.inr (.inr (r', md', as, pc', st'))) => match ex f r' md' 0 (ent md'.2.2.2.1 as) [] w with
      | none => none
      | some (v, w') => ex f r md pc' L (st2 v st') w'
theorem ex_up : ∀ (f r : Nat) (md : Md) (pc : Nat) (L st : List Value) (w : Wd) (o : Ot), ex f r md pc L st w = some o → ex (f + 1) r md pc L st w = some o := by
  intro f
  induction f with
  | zero => intro r md pc L st w o h; simp [ex] at h
  | succ f ih =>
    intro r md pc L st w o h
    rw [ex] at h
    rw [ex]
    cases hs : stp r md pc L st w with
    | none => rw [hs] at h; simp at h
    | some a =>
      rw [hs] at h
      obtain ⟨pc', L', st', w'⟩ | o' | ⟨r', md', as, pc', st'⟩ := a
      · exact ih _ _ _ _ _ _ _ h
      · exact h
      · dsimp only at h ⊢
        cases he : ex f r' md' 0 (ent md'.2.2.2.1 as) [] w with
        | none => rw [he] at h; simp at h
        | some q =>
          rw [he] at h
          rw [ih _ _ _ _ _ _ _ he]
          exact ih _ _ _ _ _ _ _ h
theorem ex_le {f g r : Nat} {md : Md} {pc : Nat} {L st : List Value} {w : Wd} {o : Ot} (hfg : f ≤ g) (h : ex f r md pc L st w = some o) : ex g r md pc L st w = some o := by
  induction hfg with
  | refl => exact h
  | step _ ih => exact ex_up _ _ _ _ _ _ _ _ ih
/-- what a run ends with -/
noncomputable def E (r : Nat) (md : Md) (pc : Nat) (L st : List Value) (w : Wd) : Option Ot :=
  @dite _ (∃ o, ∃ f, ex f r md pc L st w = some o) (Classical.propDecidable _) (fun h => some h.choose) (fun _ => none)
theorem E_iff {r : Nat} {md : Md} {pc : Nat} {L st : List Value} {w : Wd} {o : Ot} : E r md pc L st w = some o ↔ ∃ f, ex f r md pc L st w = some o := by
  unfold E
  by_cases h : ∃ o, ∃ f, ex f r md pc L st w = some o
  · rw [dif_pos h]
    obtain ⟨f, hf⟩ := h.choose_spec
    constructor
    · intro q
      exact ⟨f, by rw [hf]; exact q⟩
    · rintro ⟨g, hg⟩
      have h1 := ex_le (Nat.le_max_left f g) hf
      have h2 := ex_le (Nat.le_max_right f g) hg
      rw [← h1, h2]
  · rw [dif_neg h]
    constructor
    · intro q; cases q
    · rintro ⟨g, hg⟩
      exact absurd ⟨o, g, hg⟩ h
theorem E_ext {a b : Option Ot} (h : ∀ o, a = some o ↔ b = some o) : a = b := by
  cases a with
  | none => cases b with
    | none => rfl
    | some y => exact ((h y).mpr rfl)
  | some x => exact ((h x).mp rfl).symm
def bnd (x : Option Ot) (k : Option Value → Wd → Option Ot) : Option Ot := match x with
  | some (v, w) => k v w
  | none => none
theorem bnd_some (v : Option Value) (w : Wd) (k : Option Value → Wd → Option Ot) : bnd (some (v, w)) k = k v w := rfl
theorem E_nx {r : Nat} {md : Md} {pc : Nat} {L st : List Value} {w : Wd} {pc' : Nat} {L' st' : List Value} {w' : Wd} (h : stp r md pc L st w = nx pc' L' st' w') : E r md pc L st w = E r md pc' L' st' w' := by
  apply E_ext
  intro o
  rw [E_iff, E_iff]
  constructor
  · rintro ⟨f, hf⟩
    cases f with
    | zero => simp [ex] at hf
    | succ f => rw [ex, h] at hf; exact ⟨f, hf⟩
  · rintro ⟨f, hf⟩
    exact ⟨f + 1, by rw [ex, h]; exact hf⟩
theorem E_rt {r : Nat} {md : Md} {pc : Nat} {L st : List Value} {w : Wd} {v : Option Value} {w' : Wd} (h : stp r md pc L st w = rt v w') : E r md pc L st w = some (v, w') :=
  E_iff.mpr ⟨1, by rw [ex, h]; rfl⟩
theorem E_ca {r : Nat} {md : Md} {pc : Nat} {L st : List Value} {w : Wd} {r' : Nat} {md' : Md} {as : List Value} {pc' : Nat} {st' : List Value} (h : stp r md pc L st w = ca r' md' as pc' st') :
    E r md pc L st w = bnd (E r' md' 0 (ent md'.2.2.2.1 as) [] w) (fun v w' => E r md pc' L (st2 v st') w') := by
  apply E_ext
  intro o
  constructor
  · intro q
    obtain ⟨f, hf⟩ := E_iff.mp q
    cases f with
    | zero => simp [ex] at hf
    | succ f =>
      rw [ex, h] at hf
      simp only [ca] at hf
      cases he : ex f r' md' 0 (ent md'.2.2.2.1 as) [] w with
      | none => rw [he] at hf; simp at hf
      | some q =>
        rw [he] at hf
        obtain ⟨v, w'⟩ := q
        rw [E_iff.mpr ⟨f, he⟩, bnd_some]
        exact E_iff.mpr ⟨f, hf⟩
  · intro q
    cases he : E r' md' 0 (ent md'.2.2.2.1 as) [] w with
    | none => rw [he] at q; simp [bnd] at q
    | some p =>
      obtain ⟨v, w'⟩ := p
      rw [he, bnd_some] at q
      obtain ⟨f, hf⟩ := E_iff.mp he
      obtain ⟨g, hg⟩ := E_iff.mp q
      refine E_iff.mpr ⟨max f g + 1, ?_⟩
      rw [ex, h]
      simp only [ca]
      rw [ex_le (Nat.le_max_left f g) hf]
      exact ex_le (Nat.le_max_right f g) hg
