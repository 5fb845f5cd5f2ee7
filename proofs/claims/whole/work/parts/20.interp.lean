/-! An interpreter over worlds of our own: it steps by 'decode', calls by number and depth; 'jx_run' is without fuel. It knows the program by the tables of part 10. -/
def jx_gF (w : jx_W) (a ci k : Nat) : Option jx_V := match w.1 a with
  | some (.inr (c, fs)) => if c = ci then fs[k]? else none
  | _ => none
def jx_sF (w : jx_W) (a ci k : Nat) (v : jx_V) : Option jx_W := match w.1 a with
  | some (.inr (c, fs)) => if c = ci ∧ k < fs.length then some (va_up w.1 a (some (.inr (c, fs.set k v))), w.2) else none
  | _ => none
def jx_gI (Z : jx_Sc) (t : Nat) (w : jx_W) (a : Nat) (i : Int32) : Option Int32 := match w.1 a with
  | some (.inl (t', n, .inl f)) => if t' = t ∧ ¬ (i < 0 ∨ n ≤ i.toNatClampNeg) then some (f i.toNatClampNeg) else none
  | none => if t = 0 ∧ a = Z.1 ∧ ¬ (i < 0 ∨ Z.2.1 ≤ i.toNatClampNeg) then some (Z.2.2 i.toNatClampNeg) else none
  | _ => none
def jx_sI (t : Nat) (w : jx_W) (a : Nat) (i x : Int32) : Option jx_W := match w.1 a with
  | some (.inl (t', n, .inl f)) => if t' = t ∧ ¬ (i < 0 ∨ n ≤ i.toNatClampNeg) then some (va_up w.1 a (some (.inl (t', n, .inl (va_up f i.toNatClampNeg x)))), w.2) else none
  | _ => none
def jx_gA (w : jx_W) (a : Nat) (i : Int32) : Option (Option Nat) := match w.1 a with
  | some (.inl (t, n, .inr f)) => if (jt_el t).isSome = true ∧ ¬ (i < 0 ∨ n ≤ i.toNatClampNeg) then some (f i.toNatClampNeg) else none
  | _ => none
/-- the object at v is of the class that the array of kind t holds -/
def jx_ok (w : jx_W) (t : Nat) (r : Option Nat) : Bool := match r with
  | none => (jt_el t).isSome
  | some v => match w.1 v with
    | some (.inr (ci, _)) => decide (jt_el t = some ci)
    | _ => false
def jx_sA (w : jx_W) (a : Nat) (i : Int32) (r : Option Nat) : Option jx_W := match w.1 a with
  | some (.inl (t, n, .inr f)) => if jx_ok w t r = true ∧ ¬ (i < 0 ∨ n ≤ i.toNatClampNeg) then some (va_up w.1 a (some (.inl (t, n, .inr (va_up f i.toNatClampNeg r)))), w.2) else none
  | _ => none
def jx_gL (Z : jx_Sc) (w : jx_W) (a : Nat) : Option Nat := match w.1 a with
  | some (.inl (t, n, _)) => if t < jt_nk then some n else none
  | none => if a = Z.1 then some Z.2.1 else none
  | _ => none
/-- a new cell of k slots -/
def jx_nw (w : jx_W) (c : jx_E) (k : Nat) : jx_W := (va_up w.1 w.2.1 (some c), w.2.1 + 1, w.2.2 + k)
def jx_is (w : jx_W) (a ci : Nat) : Bool := match w.1 a with
  | some (.inr (c, _)) => c == ci
  | _ => false
/-- whether a value is of the kind (0 int, 1 boolean, 2 reference) -/
def jx_fk (k : Nat) (v : jx_V) : Bool := match v with
  | .inl x => k == 0 || (k == 1 && decide (x = 0 ∨ x = 1))
  | .inr _ => k == 2
abbrev jx_O : Type := Option (jx_S ⊕ jx_T)
def jx_k {α : Type} (n k : Nat) (o : Option α) : Option α := if n = k then o else none
def jx_go (pc : Nat) (lv : jx_L) (st : List jx_V) (w : jx_W) : jx_O := some (.inl (pc, lv, st, w))
def jx_tg (pc : Nat) (off : Int) : Option Nat := if 0 ≤ (pc : Int) + off then some ((pc : Int) + off).toNat else none
def jx_cb (c : Jvm.ClassFile.Cond) (x y : Int32) : Bool := match c with
  | .eq => decide (x = y)
  | .ne => decide (¬ x = y)
  | .lt => decide (x < y)
  | .ge => decide (y ≤ x)
  | .gt => decide (y < x)
  | .le => decide (x ≤ y)
def jx_br (b : Bool) (pc : Nat) (off : Int) (lv : jx_L) (st : List jx_V) (w : jx_W) : jx_O := match jx_tg pc off with
  | some t => jx_go (if b = true then t else pc + 3) lv st w
  | none => none
def ja_li (i pc n : Nat) (lv : jx_L) (st : List jx_V) (w : jx_W) : jx_O := match lv[i]? with
  | some (some (.inl x)) => jx_go (pc + n) lv (.inl x :: st) w
  | _ => none
def ja_la (i pc n : Nat) (lv : jx_L) (st : List jx_V) (w : jx_W) : jx_O := match lv[i]? with
  | some (some (.inr r)) => jx_go (pc + n) lv (.inr r :: st) w
  | _ => none
def ja_si (nL i pc n : Nat) (lv : jx_L) (st : List jx_V) (w : jx_W) : jx_O := match st with
  | .inl x :: st => if i < nL then jx_go (pc + n) (lv.set i (some (.inl x))) st w else none
  | _ => none
def ja_sa (nL i pc n : Nat) (lv : jx_L) (st : List jx_V) (w : jx_W) : jx_O := match st with
  | .inr r :: st => if i < nL then jx_go (pc + n) (lv.set i (some (.inr r))) st w else none
  | _ => none
def ja_ii (nL k : Nat) (c : Int) (pc : Nat) (lv : jx_L) (st : List jx_V) (w : jx_W) : jx_O := match lv[k]? with
  | some (some (.inl x)) => if k < nL then jx_go (pc + 3) (lv.set k (some (.inl (x + Int32.ofInt c)))) st w else none
  | _ => none
def ja_b2 (g : Int32 → Int32 → Int32) (pc : Nat) (lv : jx_L) (st : List jx_V) (w : jx_W) : jx_O := match st with
  | .inl y :: .inl x :: st => jx_go (pc + 1) lv (.inl (g x y) :: st) w
  | _ => none
/-- a division: not by 0 -/
def ja_b0 (g : Int32 → Int32 → Int32) (pc : Nat) (lv : jx_L) (st : List jx_V) (w : jx_W) : jx_O := match st with
  | .inl y :: .inl x :: st => if y = 0 then none else jx_go (pc + 1) lv (.inl (g x y) :: st) w
  | _ => none
def ja_neg (pc : Nat) (lv : jx_L) (st : List jx_V) (w : jx_W) : jx_O := match st with
  | .inl x :: st => jx_go (pc + 1) lv (.inl (-x) :: st) w
  | _ => none
def ja_dup (pc : Nat) (lv : jx_L) (st : List jx_V) (w : jx_W) : jx_O := match st with
  | v :: st => jx_go (pc + 1) lv (v :: v :: st) w
  | _ => none
def ja_dup2 (pc : Nat) (lv : jx_L) (st : List jx_V) (w : jx_W) : jx_O := match st with
  | v :: u :: st => jx_go (pc + 1) lv (v :: u :: v :: u :: st) w
  | _ => none
def ja_pop (pc : Nat) (lv : jx_L) (st : List jx_V) (w : jx_W) : jx_O := match st with
  | _ :: st => jx_go (pc + 1) lv st w
  | _ => none
def ja_if (c : Jvm.ClassFile.Cond) (off : Int) (pc : Nat) (lv : jx_L) (st : List jx_V) (w : jx_W) : jx_O := match st with
  | .inl x :: st => jx_br (jx_cb c x 0) pc off lv st w
  | _ => none
def ja_ic (c : Jvm.ClassFile.Cond) (off : Int) (pc : Nat) (lv : jx_L) (st : List jx_V) (w : jx_W) : jx_O := match st with
  | .inl y :: .inl x :: st => jx_br (jx_cb c x y) pc off lv st w
  | _ => none
def ja_nl (off : Int) (pc : Nat) (lv : jx_L) (st : List jx_V) (w : jx_W) : jx_O := match st with
  | .inr r :: st => jx_br r.isNone pc off lv st w
  | _ => none
def ja_nn (off : Int) (pc : Nat) (lv : jx_L) (st : List jx_V) (w : jx_W) : jx_O := match st with
  | .inr r :: st => jx_br r.isSome pc off lv st w
  | _ => none
def ja_ts (d lo hi : Int) (offs : Array Int) (pc : Nat) (lv : jx_L) (st : List jx_V) (w : jx_W) : jx_O := match st with
  | .inl x :: st => if x.toInt < lo ∨ hi < x.toInt then jx_br true pc d lv st w else (match offs[(x.toInt - lo).toNat]? with
    | some off => jx_br true pc off lv st w
    | none => none)
  | _ => none
def ja_gf (X : jx_X) (k pc : Nat) (lv : jx_L) (st : List jx_V) (w : jx_W) : jx_O := match jt_fld X.1 k with
  | some (ci, f, _, _) => (match st with
    | .inr (some a) :: st => (match jx_gF w a ci f with
      | some v => jx_go (pc + 3) lv (v :: st) w
      | none => none)
    | _ => none)
  | none => none
def ja_pf (X : jx_X) (k pc : Nat) (lv : jx_L) (st : List jx_V) (w : jx_W) : jx_O := match jt_fld X.1 k with
  | some (ci, f, tk, pm) => (match st with
    | v :: .inr (some a) :: st => if jx_fk tk v = true ∧ (pm = 0 ∨ (pm = 1 ∧ X.2.2.2.2 = true)) then (match jx_sF w a ci f v with
      | some w => jx_go (pc + 3) lv st w
      | none => none) else none
    | _ => none)
  | none => none
def ja_al (Z : jx_Sc) (t pc : Nat) (lv : jx_L) (st : List jx_V) (w : jx_W) : jx_O := match st with
  | .inl i :: .inr (some a) :: st => (match jx_gI Z t w a i with
    | some x => jx_go (pc + 1) lv (.inl x :: st) w
    | none => none)
  | _ => none
def ja_as (t pc : Nat) (lv : jx_L) (st : List jx_V) (w : jx_W) : jx_O := match st with
  | .inl x :: .inl i :: .inr (some a) :: st => if t = 0 ∨ x = 0 ∨ x = 1 then (match jx_sI t w a i x with
    | some w => jx_go (pc + 1) lv st w
    | none => none) else none
  | _ => none
def ja_rl (pc : Nat) (lv : jx_L) (st : List jx_V) (w : jx_W) : jx_O := match st with
  | .inl i :: .inr (some a) :: st => (match jx_gA w a i with
    | some r => jx_go (pc + 1) lv (.inr r :: st) w
    | none => none)
  | _ => none
def ja_rs (pc : Nat) (lv : jx_L) (st : List jx_V) (w : jx_W) : jx_O := match st with
  | .inr r :: .inl i :: .inr (some a) :: st => (match jx_sA w a i r with
    | some w => jx_go (pc + 1) lv st w
    | none => none)
  | _ => none
def ja_len (Z : jx_Sc) (pc : Nat) (lv : jx_L) (st : List jx_V) (w : jx_W) : jx_O := match st with
  | .inr (some a) :: st => (match jx_gL Z w a with
    | some k => jx_go (pc + 1) lv (.inl (Int32.ofNat k) :: st) w
    | none => none)
  | _ => none
def ja_na (ty : ArrayType) (pc : Nat) (lv : jx_L) (st : List jx_V) (w : jx_W) : jx_O := match jt_na ty with
  | some t => (match st with
    | .inl x :: st => if x < 0 ∨ 65536 < x.toNatClampNeg then none else jx_go (pc + 2) lv (.inr (some w.2.1) :: st) (jx_nw w (.inl (t, x.toNatClampNeg, .inl (fun _ => 0))) x.toNatClampNeg)
    | _ => none)
  | none => none
def ja_ra (X : jx_X) (k pc : Nat) (lv : jx_L) (st : List jx_V) (w : jx_W) : jx_O := match jt_arr X.1 k with
  | some t => (match st with
    | .inl x :: st => if x < 0 ∨ 65536 < x.toNatClampNeg then none else jx_go (pc + 3) lv (.inr (some w.2.1) :: st) (jx_nw w (.inl (t, x.toNatClampNeg, .inr (fun _ => none))) x.toNatClampNeg)
    | _ => none)
  | none => none
def ja_nw (X : jx_X) (k pc : Nat) (lv : jx_L) (st : List jx_V) (w : jx_W) : jx_O := match jt_new X.1 k with
  | some (ci, fs) => jx_go (pc + 3) lv (.inr (some w.2.1) :: st) (jx_nw w (.inr (ci, fs)) fs.length)
  | none => none
def ja_lc (X : jx_X) (k pc : Nat) (lv : jx_L) (st : List jx_V) (w : jx_W) : jx_O := match jt_cst X.1 k with
  | some v => jx_go (pc + 2) lv (.inl v :: st) w
  | none => none
/-- a call: how (0 static of the own class, 1 static of a nest mate, 2 virtual, 3 <init>, 4 <init> of a nest mate), which method, with how many parameters -/
def jx_bd (how : Nat) : Nat := if how = 0 then 12 else 8
def jx_cl (call : jx_C) (q : Nat × Nat × Nat) (pc : Nat) (lv : jx_L) (st : List jx_V) (w : jx_W) : jx_O :=
  if q.2.2 ≤ st.length ∧ (st.drop q.2.2).length ≤ jx_bd q.1 then
    (match call q.2.1 (st.take q.2.2).reverse w with
    | some t => jx_go (pc + 3) lv (t.1.toList ++ st.drop q.2.2) t.2
    | none => none)
  else none
/-- the receiver: the last of the parameters on the stack -/
def jx_rv (q : Nat × Nat × Nat) (st : List jx_V) : Option Nat := match st[q.2.2 - 1]? with
  | some (.inr (some a)) => some a
  | _ => none
def ja_is (call : jx_C) (X : jx_X) (k pc : Nat) (lv : jx_L) (st : List jx_V) (w : jx_W) : jx_O := match jt_ms X.1 k with
  | some (.inl q) => jx_cl call q pc lv st w
  | some (.inr b) => (match st with
    | .inl y :: .inl x :: st => if st.length ≤ 8 then jx_go (pc + 3) lv (.inl (if b = true then (if x < y then y else x) else (if y < x then y else x)) :: st) w else none
    | _ => none)
  | none => none
def ja_iv (call : jx_C) (X : jx_X) (k pc : Nat) (lv : jx_L) (st : List jx_V) (w : jx_W) : jx_O := match jt_mv X.1 k with
  | some (q, ci) => (match jx_rv q st with
    | some a => if jx_is w a ci = true then jx_cl call q pc lv st w else none
    | none => none)
  | none => none
def ja_in (call : jx_C) (X : jx_X) (k pc : Nat) (lv : jx_L) (st : List jx_V) (w : jx_W) : jx_O := match jt_mi X.1 k with
  | some (some q) => (match jx_rv q st with
    | some _ => jx_cl call q pc lv st w
    | none => none)
  | some none => (match st with
    | .inr (some _) :: st => if st.length ≤ 8 then jx_go (pc + 3) lv st w else none
    | _ => none)
  | none => none
def ja_ir (X : jx_X) (st : List jx_V) (w : jx_W) : jx_O := match st with
  | [.inl x] => (match X.2.2.2.1 with
    | some .int => some (.inr (some (.inl x), w))
    | some .boolean => if x = 0 ∨ x = 1 then some (.inr (some (.inl x), w)) else none
    | _ => none)
  | _ => none
def ja_ar (X : jx_X) (st : List jx_V) (w : jx_W) : jx_O := match st with
  | [.inr r] => (match X.2.2.2.1 with
    | some (.object _) => some (.inr (some (.inr r), w))
    | _ => none)
  | _ => none
def ja_vr (X : jx_X) (st : List jx_V) (w : jx_W) : jx_O := match st with
  | [] => (match X.2.2.2.1 with
    | none => some (.inr (none, w))
    | _ => none)
  | _ => none
def jx_I (Z : jx_Sc) (X : jx_X) (call : jx_C) (i : Instr) (n pc : Nat) (lv : jx_L) (st : List jx_V) (w : jx_W) : jx_O :=
  match i with
  | .iconst c => jx_k n 1 (jx_go (pc + 1) lv (.inl (Int32.ofInt c) :: st) w)
  | .bipush c => jx_k n 2 (jx_go (pc + 2) lv (.inl (Int8.ofInt c).toInt32 :: st) w)
  | .sipush c => jx_k n 3 (jx_go (pc + 3) lv (.inl (Int16.ofInt c).toInt32 :: st) w)
  | .ldc k => jx_k n 2 (ja_lc X k pc lv st w)
  | .aconst_null => jx_k n 1 (jx_go (pc + 1) lv (.inr none :: st) w)
  | .iload_n k => jx_k n 1 (ja_li k.val pc 1 lv st w)
  | .iload k => jx_k n 2 (ja_li k pc 2 lv st w)
  | .aload_n k => jx_k n 1 (ja_la k.val pc 1 lv st w)
  | .aload k => jx_k n 2 (ja_la k pc 2 lv st w)
  | .istore_n k => jx_k n 1 (ja_si X.2.2.1 k.val pc 1 lv st w)
  | .istore k => jx_k n 2 (ja_si X.2.2.1 k pc 2 lv st w)
  | .astore_n k => jx_k n 1 (ja_sa X.2.2.1 k.val pc 1 lv st w)
  | .astore k => jx_k n 2 (ja_sa X.2.2.1 k pc 2 lv st w)
  | .iinc k c => jx_k n 3 (ja_ii X.2.2.1 k c pc lv st w)
  | .iadd => jx_k n 1 (ja_b2 (fun x y => x + y) pc lv st w)
  | .isub => jx_k n 1 (ja_b2 (fun x y => x - y) pc lv st w)
  | .imul => jx_k n 1 (ja_b2 (fun x y => x * y) pc lv st w)
  | .iand => jx_k n 1 (ja_b2 (fun x y => x &&& y) pc lv st w)
  | .ior => jx_k n 1 (ja_b2 (fun x y => x ||| y) pc lv st w)
  | .ixor => jx_k n 1 (ja_b2 (fun x y => x ^^^ y) pc lv st w)
  | .ishl => jx_k n 1 (ja_b2 (fun x y => x <<< (y &&& 31)) pc lv st w)
  | .ishr => jx_k n 1 (ja_b2 (fun x y => x >>> (y &&& 31)) pc lv st w)
  | .iushr => jx_k n 1 (ja_b2 (fun x y => (x.toUInt32 >>> (y.toUInt32 &&& Int32.toUInt32 31)).toInt32) pc lv st w)
  | .idiv => jx_k n 1 (ja_b0 (fun x y => x / y) pc lv st w)
  | .irem => jx_k n 1 (ja_b0 (fun x y => x - x / y * y) pc lv st w)
  | .ineg => jx_k n 1 (ja_neg pc lv st w)
  | .dup => jx_k n 1 (ja_dup pc lv st w)
  | .dup2 => jx_k n 1 (ja_dup2 pc lv st w)
  | .pop => jx_k n 1 (ja_pop pc lv st w)
  | .ifCond c off => jx_k n 3 (ja_if c off pc lv st w)
  | .if_icmp c off => jx_k n 3 (ja_ic c off pc lv st w)
  | .ifnull off => jx_k n 3 (ja_nl off pc lv st w)
  | .ifnonnull off => jx_k n 3 (ja_nn off pc lv st w)
  | .goto off => jx_k n 3 (jx_br true pc off lv st w)
  | .tableswitch d lo hi offs => ja_ts d lo hi offs pc lv st w
  | .getfield k => jx_k n 3 (ja_gf X k pc lv st w)
  | .putfield k => jx_k n 3 (ja_pf X k pc lv st w)
  | .iaload => jx_k n 1 (ja_al Z 0 pc lv st w)
  | .iastore => jx_k n 1 (ja_as 0 pc lv st w)
  | .baload => jx_k n 1 (ja_al Z 1 pc lv st w)
  | .bastore => jx_k n 1 (ja_as 1 pc lv st w)
  | .aaload => jx_k n 1 (ja_rl pc lv st w)
  | .aastore => jx_k n 1 (ja_rs pc lv st w)
  | .arraylength => jx_k n 1 (ja_len Z pc lv st w)
  | .newarray ty => jx_k n 2 (ja_na ty pc lv st w)
  | .anewarray k => jx_k n 3 (ja_ra X k pc lv st w)
  | .new k => jx_k n 3 (ja_nw X k pc lv st w)
  | .invokestatic k => jx_k n 3 (ja_is call X k pc lv st w)
  | .invokevirtual k => jx_k n 3 (ja_iv call X k pc lv st w)
  | .invokespecial k => jx_k n 3 (ja_in call X k pc lv st w)
  | .ireturn => jx_k n 1 (ja_ir X st w)
  | .areturn => jx_k n 1 (ja_ar X st w)
  | .return_ => jx_k n 1 (ja_vr X st w)
  | _ => none
def jx_nxt (Z : jx_Sc) (X : jx_X) (call : jx_C) (s : jx_S) : jx_O := match decode X.2.1 s.1 with
  | .ok (i, n) => jx_I Z X call i n s.1 s.2.1 s.2.2.1 s.2.2.2
  | .error _ => none
def jx_ex (Z : jx_Sc) (X : jx_X) (call : jx_C) : Nat → jx_S → Option jx_T
  | 0, _ => none
  | f + 1, s => match jx_nxt Z X call s with
    | none => none
    | some (.inl s') => jx_ex Z X call f s'
    | some (.inr r) => some r
theorem jx_ex_up {Z : jx_Sc} {X : jx_X} {call : jx_C} : ∀ (f : Nat) (s : jx_S) (r : jx_T), jx_ex Z X call f s = some r → ∀ g, f ≤ g → jx_ex Z X call g s = some r
  | 0, s, r, h, g, hg => by simp [jx_ex] at h
  | f + 1, s, r, h, 0, hg => by omega
  | f + 1, s, r, h, g + 1, hg => by
    simp only [jx_ex] at h ⊢
    cases hn : jx_nxt Z X call s with
    | none => rw [hn] at h; cases h
    | some q =>
      rw [hn] at h
      cases q with
      | inl s' => exact jx_ex_up f s' r h g (by omega)
      | inr t => exact h
noncomputable def jx_run (Z : jx_Sc) (X : jx_X) (call : jx_C) (s : jx_S) : Option jx_T :=
  @dite (Option jx_T) (∃ r f, jx_ex Z X call f s = some r) (Classical.propDecidable _) (fun h => some h.choose) (fun _ => none)
theorem jx_run_iff {Z : jx_Sc} {X : jx_X} {call : jx_C} {s : jx_S} {r : jx_T} : jx_run Z X call s = some r ↔ ∃ f, jx_ex Z X call f s = some r := by
  unfold jx_run
  constructor
  · intro h
    by_cases hx : ∃ r f, jx_ex Z X call f s = some r
    · rw [dif_pos hx] at h
      have := hx.choose_spec
      rw [Option.some.inj h] at this
      exact this
    · rw [dif_neg hx] at h; cases h
  · rintro ⟨f, hf⟩
    have hx : ∃ r f, jx_ex Z X call f s = some r := ⟨r, f, hf⟩
    rw [dif_pos hx]
    obtain ⟨g, hg⟩ := hx.choose_spec
    have h1 := jx_ex_up f s r hf (max f g) (by omega)
    have h2 := jx_ex_up g s _ hg (max f g) (by omega)
    rw [h1] at h2
    exact h2.symm
theorem jx_run_in {Z : jx_Sc} {X : jx_X} {call : jx_C} {s s' : jx_S} (hn : jx_nxt Z X call s = some (.inl s')) : jx_run Z X call s = jx_run Z X call s' := by
  cases hr : jx_run Z X call s' with
  | some r =>
    obtain ⟨f, hf⟩ := jx_run_iff.mp hr
    exact jx_run_iff.mpr ⟨f + 1, by simp only [jx_ex, hn]; exact hf⟩
  | none =>
    cases hr2 : jx_run Z X call s with
    | none => rfl
    | some r =>
      obtain ⟨f, hf⟩ := jx_run_iff.mp hr2
      cases f with
      | zero => simp [jx_ex] at hf
      | succ f =>
        simp only [jx_ex, hn] at hf
        have := jx_run_iff.mpr ⟨f, hf⟩
        rw [hr] at this
        cases this
theorem jx_run_out {Z : jx_Sc} {X : jx_X} {call : jx_C} {s : jx_S} {t : jx_T} (hn : jx_nxt Z X call s = some (.inr t)) : jx_run Z X call s = some t :=
  jx_run_iff.mpr ⟨1, by simp only [jx_ex, hn]⟩
theorem jx_run_no {Z : jx_Sc} {X : jx_X} {call : jx_C} {s : jx_S} (hn : jx_nxt Z X call s = none) : jx_run Z X call s = none := by
  cases hr : jx_run Z X call s with
  | none => rfl
  | some r =>
    obtain ⟨f, hf⟩ := jx_run_iff.mp hr
    cases f with
    | zero => simp [jx_ex] at hf
    | succ f => simp [jx_ex, hn] at hf
/-- a method by its number, at most d deep -/
noncomputable def jx_m (Z : jx_Sc) : Nat → jx_C
  | 0, _, _, _ => none
  | d + 1, k, as, w => match jt_M k with
    | none => none
    | some (_, X, n) => if as.length = n then jx_run Z X (jx_m Z d) (0, as.map some ++ List.replicate (X.2.2.1 - as.length) none, [], w) else none
theorem jx_m_some {Z : jx_Sc} {d k : Nat} {as : List jx_V} {w : jx_W} {t : jx_T} (h : jx_m Z d k as w = some t) : ∃ d' y X n, d = d' + 1 ∧ jt_M k = some (y, X, n) ∧ as.length = n ∧ jx_run Z X (jx_m Z d') (0, as.map some ++ List.replicate (X.2.2.1 - as.length) none, [], w) = some t := by
  cases d with
  | zero => simp [jx_m] at h
  | succ d =>
    simp only [jx_m] at h
    cases hM : jt_M k with
    | none => rw [hM] at h; cases h
    | some q =>
      obtain ⟨y, X, n⟩ := q
      rw [hM] at h
      dsimp only at h
      split at h
      · exact ⟨d, y, X, n, rfl, by first | exact hM | rfl, by assumption, h⟩
      · cases h
