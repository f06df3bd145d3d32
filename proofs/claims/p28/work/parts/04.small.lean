/-! THE SMALL MACHINE: the instructions that the class and its reference use, over a memory of named cells. A cell is (t, k, g): t its kind, k which of its kind, g of which State. -/
abbrev PR : Type := Nat × Nat × Nat
abbrev PV : Type := Int32 ⊕ Int64 ⊕ UInt64 ⊕ Option PR
abbrev vI (x : Int32) : PV := .inl x
abbrev vL (x : Int64) : PV := .inr (.inl x)
abbrev vD (x : UInt64) : PV := .inr (.inr (.inl x))
abbrev vR (t k g : Nat) : PV := .inr (.inr (.inr (some (t, k, g))))
abbrev vN : PV := .inr (.inr (.inr none))
/-- ints and longs: cell (t, k, g), place -/
abbrev PM : Type := (Nat → Nat → Nat → Nat → Int32) × (Nat → Nat → Nat → Nat → Int64)
/-- a method: name, code, locals, answer's type, its class's number, parameters, frames and locals' words below it, instructions -/
abbrev MI : Type := MethodName × ByteArray × Nat × Option FieldType × Nat × Nat × Nat × Nat × List (Nat × Instr × Nat)
def mY (M : MI) : MethodName := M.1
def mB (M : MI) : ByteArray := M.2.1
def mN (M : MI) : Nat := M.2.2.1
def mRet (M : MI) : Option FieldType := M.2.2.2.1
def mO (M : MI) : Nat := M.2.2.2.2.1
def mPar (M : MI) : Nat := M.2.2.2.2.2.1
def mFr (M : MI) : Nat := M.2.2.2.2.2.2.1
def mLo (M : MI) : Nat := M.2.2.2.2.2.2.2.1
def mT (M : MI) : List (Nat × Instr × Nat) := M.2.2.2.2.2.2.2.2
def asc {α : Type} (l : List (Nat × α)) (k : Nat) : Option α := match l with
  | [] => none
  | (a, x) :: r => if a = k then some x else asc r k
theorem asc_mem {α : Type} {l : List (Nat × α)} {k : Nat} {x : α} (h : asc l k = some x) : (k, x) ∈ l := by
  induction l with
  | nil => cases h
  | cons q r ih =>
    obtain ⟨a, y⟩ := q
    unfold asc at h
    by_cases e : a = k
    · rw [if_pos e] at h; cases h; subst e; exact List.mem_cons_self
    · rw [if_neg e] at h; exact List.mem_cons_of_mem _ (ih h)
def wI (m : PM) (t k g i : Nat) (v : Int32) : PM := (fun a b c d => if a = t ∧ b = k ∧ c = g ∧ d = i then v else m.1 a b c d, m.2)
def wL (m : PM) (t k g i : Nat) (v : Int64) : PM := (m.1, fun a b c d => if a = t ∧ b = k ∧ c = g ∧ d = i then v else m.2 a b c d)
def wC (m : PM) (k g : Nat) (n : Nat) (k2 g2 : Nat) : PM := (fun a b c d => if a = 2 ∧ b = k2 ∧ c = g2 ∧ d < n then m.1 2 k g d else m.1 a b c d, m.2)
def nlen (k : Nat) : Nat := match k with
  | 0 => 96 | 1 => 8 | 2 => 8 | 3 => 8 | 4 => 12 | 5 => 12 | 6 => 8 | 7 => 8 | 8 => 8 | 9 => 8 | 10 => 3 | _ => 60
def zlen (k : Nat) : Nat := match k with
  | 0 => 7 | 1 => 30 | 2 => 36 | 3 => 6 | 4 => 6 | _ => 5
/-- an int array's length -/
def ilen (m : PM) (t k : Nat) : Option Nat := match t with
  | 2 => some (nlen k) | 8 => some (zlen k) | 10 => some (m.1 10 0 1 0).toNatClampNeg | _ => none
/-- an array's length -/
def alen (m : PM) (t k : Nat) : Option Int32 := match t with
  | 2 => some (nI (nlen k)) | 8 => some (nI (zlen k)) | 5 => some 6 | 10 => some (m.1 10 0 1 0) | _ => none
/-- a cell's class, by its place in vwCl -/
def tcl (t : Nat) : Option Nat := match t with
  | 0 => some 2 | 1 => some 1 | 3 => some 4 | 4 => some 0 | 6 => some 3 | _ => none
/-- a field's value -/
def fv (m : PM) (t k g s : Nat) : Option PV := match t with
  | 0 => if s = 11 then some (vI (m.1 0 0 g 11)) else if s < 11 then some (vR 1 s g) else none
  | 1 => match s with
    | 0 => some (vR 2 k g)
    | _ => none
  | 3 => match s with
    | 0 => some (vR 0 0 0) | 1 => some (vR 0 0 1) | 2 => some (vR 4 0 0) | 3 => some (vR 6 0 0) | _ => none
  | 4 => match s with
    | 0 => some (vR 5 0 0) | 1 => some (vI (m.1 4 0 0 1)) | 2 => some (vI (m.1 4 0 0 2)) | _ => none
  | 6 => match s with
    | 0 => some (vR 1 11 0) | 1 => some (vI (m.1 6 0 0 1)) | _ => none
  | _ => none
/-- an int field, a long field that may be written -/
def ipf (t s : Nat) : Bool := match t with
  | 0 => Nat.beq s 11
  | 4 => Nat.beq s 1 || Nat.beq s 2
  | 6 => Nat.beq s 1
  | _ => false
def lpf (_ _ : Nat) : Bool := false
/-- a branch's target -/
def bt (pc : Nat) (off : Int) : Option Nat := match (pc : Int) + off with
  | .ofNat t => some t
  | .negSucc _ => none
def cat (v : PV) : Nat := match v with
  | .inl _ => 1
  | .inr (.inl _) => 2
  | .inr (.inr (.inl _)) => 2
  | .inr (.inr (.inr _)) => 1
/-- a wide value whose second half is place i is gone -/
def clr (L : List (Option PV)) (i : Nat) : List (Option PV) := match i with
  | 0 => L
  | j + 1 => match L[j]? with
    | some (some w) => if cat w = 2 then L.set j none else L
    | _ => L
/-- v is stored at place i -/
def lset (L : List (Option PV)) (i : Nat) (v : PV) : Option (List (Option PV)) := if i < L.length then some ((clr L i).set i (some v)) else none
def lset2 (L : List (Option PV)) (i : Nat) (v : PV) : Option (List (Option PV)) := if i + 1 < L.length then some (((clr L i).set i (some v)).set (i + 1) none) else none
/-- the locals with which a method begins -/
def lent : List PV → List (Option PV)
  | [] => []
  | v :: r => if cat v = 2 then some v :: none :: lent r else some v :: lent r
def lpad (l : List (Option PV)) : Nat → List (Option PV)
  | 0 => l
  | n + 1 => lpad (l ++ [none]) n
abbrev PS : Type := Nat × List (Option PV) × List PV × PM
def ival (v : Int32) (k : Nat) (L : List (Option PV)) (st : List PV) (m : PM) : Option PS := some (k, L, vI v :: st, m)
