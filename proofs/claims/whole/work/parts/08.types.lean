/-! values, cells, worlds, contexts of our interpreter -/
/-- a value: an int, or a reference that may be null -/
abbrev jx_V : Type := Int32 ⊕ Option Nat
def jx_v : jx_V → Value
  | .inl x => .int x
  | .inr r => va_rf r
/-- a cell: an array (kind, length, ints or references), or an object (class number, fields) -/
abbrev jx_E : Type := (Nat × Nat × ((Nat → Int32) ⊕ (Nat → Option Nat))) ⊕ (Nat × List jx_V)
def jx_e (kA : Nat → ClassId) : jx_E → va_E
  | .inl (t, n, .inl f) => .inl (kA t, n, .inl f)
  | .inl (t, n, .inr f) => .inl (kA t, n, .inr (.inr (.inr (.inr f))))
  | .inr (ci, fs) => .inr (ci, fs.map jx_v)
/-- a world: its cells by address, the next address, the slots made so far -/
abbrev jx_W : Type := (Nat → Option jx_E) × Nat × Nat
abbrev jx_L : Type := List (Option jx_V)
/-- a frame's state: place, locals, stack, world -/
abbrev jx_S : Type := Nat × jx_L × List jx_V × jx_W
abbrev jx_T : Type := Option jx_V × jx_W
/-- a method's context: own class, code, number of locals, return type, whether it is <init> -/
abbrev jx_X : Type := Nat × ByteArray × Nat × Option FieldType × Bool
/-- the script: address, length, contents -/
abbrev jx_Sc : Type := Nat × Nat × (Nat → Int32)
abbrev jx_C : Type := Nat → List jx_V → jx_W → Option jx_T
