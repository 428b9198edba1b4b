/-! ===== the small machine: cells, steps, runs ===== -/
/-- cells: objects (number of the kind, fields), arrays (0 int, 1 boolean, 2 Object, 3 long; length; contents) -/
abbrev xE : Type := (Nat × (Nat → Value)) ⊕ (Nat × Nat × (Nat → Value))
/-- heaps: the next address, the slots made, the cells -/
abbrev xH : Type := Nat × Nat × (Nat → Option xE)
def xO (h : xH) (a c : Nat) : Bool := match h.2.2 a with | some (.inl q) => q.1 == c | _ => false
def xg (h : xH) (a k : Nat) : Value := match h.2.2 a with | some (.inl q) => q.2 k | _ => .null
def xA (h : xH) (a t : Nat) : Bool := match h.2.2 a with | some (.inr q) => q.1 == t | _ => false
def xl (h : xH) (a : Nat) : Nat := match h.2.2 a with | some (.inr q) => q.2.1 | _ => 0
def xe (h : xH) (a j : Nat) : Value := match h.2.2 a with | some (.inr q) => q.2.2 j | _ => .null
def xpc (h : xH) (a : Nat) (e : xE) : xH := (h.1, h.2.1, fun b => if b = a then some e else h.2.2 b)
def xpf (h : xH) (a k : Nat) (v : Value) : xH := match h.2.2 a with | some (.inl q) => xpc h a (.inl (q.1, updV q.2 k v)) | _ => h
def xpe (h : xH) (a j : Nat) (v : Value) : xH := match h.2.2 a with | some (.inr q) => xpc h a (.inr (q.1, q.2.1, updV q.2.2 j v)) | _ => h
def xnw (h : xH) (n : Nat) (e : xE) : xH := (h.1 + 1, h.2.1 + n, fun b => if b = h.1 then some e else h.2.2 b)
/-- a copy within or between arrays of references -/
def xcp (h : xH) (a0 a1 sp dp n : Nat) : xH := match h.2.2 a1 with | some (.inr q) => xpc h a1 (.inr (q.1, q.2.1, va_cpy (xe h a0) q.2.2 sp dp n)) | _ => h
def xfit (t : Nat) (v : Value) : Bool := match t, v with
  | 0, .int _ => true
  | 1, .int x => x == 0 || x == 1
  | 2, .null => true
  | 2, .ref _ => true
  | _, _ => false
def xdf (t : Nat) : Value := match t with | 0 => .int 0 | 1 => .int 0 | 2 => .null | _ => .long 0
def xok (h : xH) (v : Value) : Bool := match v with | .null => true | .ref y => (match h.2.2 y with | some (.inl _) => true | _ => false) | _ => false
def xj (pc : Nat) (off : Int) : Option Nat := match (pc : Int) + off with | .ofNat n => some n | _ => none
abbrev xN : Type := Option (Nat × List (Option Value) × List Value × xH)
/-- room for a new cell of n slots -/
def xrm (g : Nat × Nat × Nat) (h : xH) (n : Nat) : Bool := decide (h.1 + 1 ≤ g.1 + 601024 ∧ h.2.1 + n ≤ 7293034)
/-- a final field is written in an initialiser of its own kind alone -/
def xwr (M c k : Nat) : Bool := !(xfd c k).2.2.2 || (decide ((xy M).name = "<init>") && decide ((xfd c k).1 = xown (xoc M)))
def xbr (pc : Nat) (off : Int) (b : Bool) (L : List (Option Value)) (r : List Value) (h : xH) : xN := match xj pc off with | some t => some (if b then t else pc + 3, L, r, h) | none => none
def xld (i d : Nat) (b : Value → Bool) (pc : Nat) (L : List (Option Value)) (st : List Value) (h : xH) : xN := match L[i]? with | some (some v) => if b v = true then some (pc + d, L, v :: st, h) else none | _ => none
def xso (i d : Nat) (b : Value → Bool) (pc : Nat) (L : List (Option Value)) (st : List Value) (h : xH) : xN := match st with | v :: r => if i < L.length ∧ b v = true then some (pc + d, L.set i (some v), r, h) else none | _ => none
def xid (v : Value) : Bool := match v with | .int _ => true | _ => false
def xrd (v : Value) : Bool := match v with | .ref _ => true | .null => true | _ => false
def xat1 (t pc : Nat) (L : List (Option Value)) (st : List Value) (h : xH) : xN := match st with | .int j :: .ref a :: r => if xA h a t = true ∧ ¬ (j < 0 ∨ xl h a ≤ j.toNatClampNeg) then some (pc + 1, L, xe h a j.toNatClampNeg :: r, h) else none | _ => none
def xst1 (g : Nat × Nat × Nat) (t pc : Nat) (v : Value) (L : List (Option Value)) (st : List Value) (h : xH) : xN := match st with | .int j :: .ref a :: r => if xA h a t = true ∧ ¬ (j < 0 ∨ xl h a ≤ j.toNatClampNeg) ∧ g.1 ≤ a then some (pc + 1, L, r, xpe h a j.toNatClampNeg v) else none | _ => none
def xnwa (g : Nat × Nat × Nat) (t pc d : Nat) (L : List (Option Value)) (st : List Value) (h : xH) : xN := match st with | .int n :: r => if 0 ≤ n ∧ xrm g h n.toNatClampNeg = true then some (pc + d, L, .ref h.1 :: r, xnw h n.toNatClampNeg (.inr (t, n.toNatClampNeg, fun _ => xdf t))) else none | _ => none
def xcnd (c : Jvm.ClassFile.Cond) (x : Int32) : Bool := match c with | .eq => decide (x = 0) | .ne => decide (¬ x = 0) | .lt => decide (x < 0) | .ge => decide (0 ≤ x) | .gt => decide (0 < x) | .le => decide (x ≤ 0)
def xcmp (c : Jvm.ClassFile.Cond) (x y : Int32) : Bool := match c with | .eq => decide (x = y) | .ne => decide (¬ x = y) | .lt => decide (x < y) | .ge => decide (y ≤ x) | .gt => decide (y < x) | .le => decide (x ≤ y)
/-- two ints into one -/
def xi2 (f : Int32 → Int32 → Int32) (pc : Nat) (L : List (Option Value)) (st : List Value) (h : xH) : xN := match st with | .int y :: .int x :: r => some (pc + 1, L, .int (f x y) :: r, h) | _ => none
/-- constants of the pools -/
def xlc (o i : Nat) : Option Int32 := match o, i with | 16, 200 => some 2147483639 | 10, 165 => some 16777215 | 11, 171 => some 16777215 | _, _ => none
def xtk (t : ArrayType) : Option Nat := match t with | .int => some 0 | .boolean => some 1 | .long => some 3 | _ => none
def xlen (i : Instr) (n : Nat) : Bool := match i with
  | .aload _ | .astore _ | .iload _ | .istore _ | .bipush _ | .ldc _ | .newarray _ => n == 2
  | .sipush _ | .iinc _ _ | .ifCond _ _ | .if_icmp _ _ | .if_acmp _ _ | .goto _ | .ifnull _ | .ifnonnull _ | .getfield _ | .putfield _ | .getstatic _ | .anewarray _ | .new _ | .checkcast _ | .invokevirtual _ | .invokestatic _ | .invokespecial _ => n == 3
  | .tableswitch _ _ _ _ => true
  | _ => n == 1
/-- the native and empty calls: 1 Object's initialiser, 2 arraycopy, 3 getClass -/
def xnt (o i k : Nat) : Nat := match k with
  | 0 => (if (o == 1 || o == 2 || o == 3 || o == 4 || o == 6 || o == 8 || o == 9 || o == 10) && i == 3 then 1 else if (o == 5 || o == 7 || o == 11 || o == 14) && i == 1 then 1 else 0)
  | 1 => (if (o == 0 && i == 112) || (o == 15 && i == 150) then 2 else 0)
  | _ => (if o == 15 && i == 86 then 3 else 0)
def xnx (g : Nat × Nat × Nat) (M pc : Nat) (i : Instr) (L : List (Option Value)) (st : List Value) (h : xH) : xN := match i with
  | .aload_n k => xld k.val 1 xrd pc L st h
  | .aload k => xld k 2 xrd pc L st h
  | .iload_n k => xld k.val 1 xid pc L st h
  | .iload k => xld k 2 xid pc L st h
  | .istore_n k => xso k.val 1 xid pc L st h
  | .istore k => xso k 2 xid pc L st h
  | .astore_n k => xso k.val 1 xrd pc L st h
  | .astore k => xso k 2 xrd pc L st h
  | .iinc k n => (match L[k]? with | some (some (.int x)) => some (pc + 3, L.set k (some (.int (x + Int32.ofInt n))), st, h) | _ => none)
  | .iconst n => some (pc + 1, L, .int (Int32.ofInt n) :: st, h)
  | .bipush n => some (pc + 2, L, .int (Int8.ofInt n).toInt32 :: st, h)
  | .sipush n => some (pc + 3, L, .int (Int16.ofInt n).toInt32 :: st, h)
  | .lconst n => some (pc + 1, L, .long (Int64.ofNat n.val) :: st, h)
  | .aconst_null => some (pc + 1, L, .null :: st, h)
  | .ldc k => (match xlc (xoc M) k with | some v => some (pc + 2, L, .int v :: st, h) | none => if xoc M = 15 ∧ k = 110 then some (pc + 2, L, .ref g.2.2 :: st, h) else none)
  | .iadd => xi2 (fun x y => x + y) pc L st h
  | .isub => xi2 (fun x y => x - y) pc L st h
  | .imul => xi2 (fun x y => x * y) pc L st h
  | .iand => xi2 (fun x y => x &&& y) pc L st h
  | .ishr => xi2 (fun x y => x >>> (y &&& 31)) pc L st h
  | .idiv => (match st with | .int y :: .int x :: r => if y = 0 then none else some (pc + 1, L, .int (x / y) :: r, h) | _ => none)
  | .irem => (match st with | .int y :: .int x :: r => if y = 0 then none else some (pc + 1, L, .int (x - x / y * y) :: r, h) | _ => none)
  | .ineg => (match st with | .int x :: r => some (pc + 1, L, .int (-x) :: r, h) | _ => none)
  | .i2l => (match st with | .int x :: r => some (pc + 1, L, .long x.toInt64 :: r, h) | _ => none)
  | .lcmp => (match st with | .long y :: .long x :: r => some (pc + 1, L, .int (lg_cmp x y) :: r, h) | _ => none)
  | .dup => (match st with | v :: r => if v.category = 1 then some (pc + 1, L, v :: v :: r, h) else none | _ => none)
  | .pop => (match st with | v :: r => if v.category = 1 then some (pc + 1, L, r, h) else none | _ => none)
  | .dup_x1 => (match st with | v :: w :: r => if v.category = 1 ∧ w.category = 1 then some (pc + 1, L, v :: w :: v :: r, h) else none | _ => none)
  | .dup2 => (match st with | v :: w :: r => if v.category = 1 ∧ w.category = 1 then some (pc + 1, L, v :: w :: v :: w :: r, h) else none | _ => none)
  | .ifCond c off => (match st with | .int x :: r => xbr pc off (xcnd c x) L r h | _ => none)
  | .if_icmp c off => (match st with | .int y :: .int x :: r => xbr pc off (xcmp c x y) L r h | _ => none)
  | .if_acmp c off => (match st with | v :: w :: r => if xrd v = true ∧ xrd w = true then xbr pc off (match c with | .eq => decide (w = v) | .ne => decide (¬ w = v)) L r h else none | _ => none)
  | .goto off => (match xj pc off with | some t => some (t, L, st, h) | none => none)
  | .ifnull off => (match st with | .null :: r => xbr pc off true L r h | .ref _ :: r => xbr pc off false L r h | _ => none)
  | .ifnonnull off => (match st with | .null :: r => xbr pc off false L r h | .ref _ :: r => xbr pc off true L r h | _ => none)
  | .tableswitch d lo hi offs => (match st with | .int x :: r => if x.toInt < lo ∨ hi < x.toInt then (match xj pc d with | some t => some (t, L, r, h) | none => none) else (match offs[(x.toInt - lo).toNat]? with | some off => (match xj pc off with | some t => some (t, L, r, h) | none => none) | none => none) | _ => none)
  | .getfield k => (match st, xfl (xoc M) k with | .ref a :: r, some q => if xO h a q.1 = true then some (pc + 3, L, xg h a q.2 :: r, h) else none | _, _ => none)
  | .putfield k => (match st, xfl (xoc M) k with | v :: .ref a :: r, some q => if xO h a q.1 = true ∧ xfit (xft q.1 q.2) v = true ∧ xwr M q.1 q.2 = true ∧ g.1 ≤ a then some (pc + 3, L, r, xpf h a q.2 v) else none | _, _ => none)
  | .getstatic k => if xoc M = 0 ∧ k = 39 then some (pc + 3, L, .ref g.2.1 :: st, h) else none
  | .iaload => (match xat1 0 pc L st h with | some q => some q | none => xat1 4 pc L st h)
  | .baload => xat1 1 pc L st h
  | .aaload => xat1 2 pc L st h
  | .laload => xat1 3 pc L st h
  | .iastore => (match st with | .int x :: r => xst1 g 0 pc (.int x) L r h | _ => none)
  | .bastore => (match st with | .int x :: r => if x = 0 ∨ x = 1 then xst1 g 1 pc (.int x) L r h else none | _ => none)
  | .lastore => (match st with | .long x :: r => xst1 g 3 pc (.long x) L r h | _ => none)
  | .aastore => (match st with | v :: r => if xok h v = true then xst1 g 2 pc v L r h else none | _ => none)
  | .arraylength => (match st with | .ref a :: r => (match h.2.2 a with | some (.inr q) => some (pc + 1, L, .int (nI q.2.1) :: r, h) | _ => none) | _ => none)
  | .newarray t => (match xtk t with | some k => xnwa g k pc 2 L st h | none => none)
  | .anewarray k => if (xoc M = 0 ∧ k = 7) ∨ (xoc M = 15 ∧ k = 2) then xnwa g 2 pc 3 L st h else none
  | .new k => (match xcl (xoc M) k with | some c => if xrm g h (xNf c) = true then some (pc + 3, L, .ref h.1 :: st, xnw h (xNf c) (.inl (c, fun j => xdf (xft c j)))) else none | none => none)
  | .checkcast k => (match st with | .null :: _ => some (pc + 3, L, st, h) | .ref a :: _ => (match xcl (xoc M) k with | some c => if xO h a c = true then some (pc + 3, L, st, h) else none | none => none) | _ => none)
  | .invokespecial k => if xnt (xoc M) k 0 = 1 then (match st with | .ref _ :: r => if (r.map fun v => v.category).sum ≤ 8 then some (pc + 3, L, r, h) else none | _ => none) else none
  | .invokestatic k => if xnt (xoc M) k 1 = 2 then (match st with
      | .int n :: .int dp :: .ref a1 :: .int sp :: .ref a0 :: r => if xA h a0 2 = true ∧ xA h a1 2 = true ∧ g.1 ≤ a1 ∧ 0 ≤ sp ∧ 0 ≤ dp ∧ 0 ≤ n ∧ sp.toNatClampNeg + n.toNatClampNeg ≤ xl h a0 ∧ dp.toNatClampNeg + n.toNatClampNeg ≤ xl h a1 ∧ (∀ j, j < n.toNatClampNeg → xok h (xe h a0 (sp.toNatClampNeg + j)) = true) ∧ (r.map fun v => v.category).sum ≤ 8 then some (pc + 3, L, r, xcp h a0 a1 sp.toNatClampNeg dp.toNatClampNeg n.toNatClampNeg) else none
      | _ => none) else none
  | .invokevirtual k => if xnt (xoc M) k 2 = 3 then (match st with | .ref a :: r => if xA h a 2 = true ∧ (r.map fun v => v.category).sum ≤ 8 then some (pc + 3, L, .ref g.2.2 :: r, h) else none | _ => none) else none
  | _ => none
/-- the exceptions: 0 IllegalArgument, 1 IndexOutOfBounds, 2 UnsupportedOperation -/
def xEn (e : Nat) : String := match e with | 0 => "java/lang/IllegalArgumentException" | 1 => "java/lang/IndexOutOfBoundsException" | _ => "java/lang/UnsupportedOperationException"
/-- the places of a throw: method, place, exception, the pool's numbers of its kind, text, initialiser; a wide text -/
def xthT : List (Nat × Nat × Nat × Nat × Nat × Nat × Bool) := [(56, 9, 0, 84, 86, 88, false), (56, 41, 0, 84, 91, 88, false), (56, 63, 2, 97, 99, 101, false), (57, 22, 0, 84, 118, 88, false), (57, 44, 0, 84, 120, 88, false), (57, 61, 0, 84, 122, 88, false), (57, 83, 1, 124, 126, 128, false), (57, 106, 2, 97, 129, 101, false), (58, 7, 1, 124, 148, 128, false), (58, 28, 0, 84, 150, 88, false), (58, 51, 2, 97, 155, 101, false), (59, 7, 1, 124, 148, 128, false), (60, 20, 0, 84, 166, 88, false), (60, 42, 2, 97, 169, 101, false), (61, 9, 0, 84, 174, 88, false), (62, 30, 0, 84, 176, 88, false), (63, 14, 1, 124, 148, 128, false), (74, 163, 0, 84, 341, 88, true), (75, 143, 0, 84, 341, 88, true), (82, 15, 1, 124, 391, 128, true), (83, 15, 1, 124, 393, 128, true)]
def xth (M pc : Nat) : Option Nat := (xthT.find? (fun q => q.1 == M && q.2.1 == pc)).map (fun q => q.2.2.1)
/-- the kinds that the law's handlers name -/
def xhc (k : Nat) : Option Nat := match k with | 13 => some 0 | 15 => some 2 | 21 => some 1 | _ => none
def xhd (M pc E : Nat) : Option Nat := ((xhh M).find? (fun q => decide (q.1 ≤ pc) && (decide (pc < q.2.1) && decide (xhc q.2.2.2 = some E)))).map (fun q => q.2.2.1)
/-- answers: what is returned, or the exception; and the heap -/
abbrev xR : Type := (Option Value ⊕ Nat) × xH
def xrt (M : Nat) (i : Instr) (st : List Value) : Option (Option Value) := match i with
  | .ireturn => (match xret M, st with | some .int, [.int x] => some (some (.int x)) | some .boolean, [.int x] => if x = 0 ∨ x = 1 then some (some (.int x)) else none | _, _ => none)
  | .areturn => (match xret M, st with | some (.object _), [v] => if xrd v = true then some (some v) else none | some (.array _), [v] => if xrd v = true then some (some v) else none | _, _ => none)
  | .return_ => (match xret M, st with | none, [] => some none | _, _ => none)
  | _ => none
def xpad (M : Nat) (As : List Value) : List (Option Value) := As.map some ++ List.replicate (xmaxL M - As.length) none
def xroom (M M' : Nat) (As r : List Value) : Bool := decide (xfr M' + 1 ≤ xfr M ∧ 8 + (xmaxL M' + 11) + xlo M' ≤ xlo M ∧ (r.map fun v => v.category).sum ≤ 8 ∧ As.length ≤ xmaxL M' ∧ ∀ v ∈ As, v.category = 1)
/-- n arguments off the stack: the arguments in their order, the rest -/
def xpop : Nat → List Value → List Value → Option (List Value × List Value)
  | 0, As, st => some (As, st)
  | n + 1, As, v :: st => xpop n (v :: As) st
  | _ + 1, _, [] => none
def xcallV (h : xH) (M M' n c : Nat) (st : List Value) : Option (Nat × List Value × List Value) := match xpop n [] st with
  | some (As, .ref a :: r) => if xO h a c = true ∧ xroom M M' (.ref a :: As) r = true then some (M', .ref a :: As, r) else none
  | _ => none
def xcallS (M M' n : Nat) (st : List Value) : Option (Nat × List Value × List Value) := match xpop n [] st with
  | some (As, r) => if xroom M M' As r = true then some (M', As, r) else none
  | _ => none
def xcallI (M M' n : Nat) (st : List Value) : Option (Nat × List Value × List Value) := match xpop n [] st with
  | some (As, .ref a :: r) => if xroom M M' (.ref a :: As) r = true then some (M', .ref a :: As, r) else none
  | _ => none
def xcall (M : Nat) (i : Instr) (st : List Value) (h : xH) : Option (Nat × List Value × List Value) := match i with
  | .invokevirtual k => (match xml (xoc M) k with | some (0, M', n, c) => xcallV h M M' n c st | _ => none)
  | .invokestatic k => (match xml (xoc M) k with | some (1, M', n, _) => xcallS M M' n st | _ => none)
  | .invokespecial k => (match xml (xoc M) k with | some (2, M', n, _) => xcallI M M' n st | _ => none)
  | _ => none
abbrev xPr : Type := Nat → Nat → List (Option Value) → List Value → xH → xR → Prop
/-- behind a call -/
def xaft (P : xPr) (M pc : Nat) (L : List (Option Value)) (r : List Value) (o out : xR) : Prop := match o with
  | (.inl v, h1) => P M (pc + 3) L (v.toList ++ r) h1 out
  | (.inr E, h1) => (match xhh M with | [] => out = (.inr E, h1) | _ :: _ => (match xhd M pc E with | some t => ∀ q : Nat, P M t L [.ref q] h1 out | none => False))
def xStI (P : xPr) (g : Nat × Nat × Nat) (M pc : Nat) (i : Instr) (L : List (Option Value)) (st : List Value) (h : xH) (out : xR) : Prop := match xth M pc with
  | some E => st = [] ∧ xrm g h 6 = true ∧ out = (.inr E, (h.1 + 1, h.2.1 + 6, h.2.2))
  | none => (match xrt M i st with
    | some v => out = (.inl v, h)
    | none => (match xcall M i st h with
      | some q => ∃ o : xR, P q.1 0 (xpad q.1 q.2.1) [] h o ∧ xaft P M pc L q.2.2 o out
      | none => (match xnx g M pc i L st h with
        | some q => P M q.1 q.2.1 q.2.2.1 q.2.2.2 out
        | none => False)))
def xSt (P : xPr) (g : Nat × Nat × Nat) (M pc : Nat) (L : List (Option Value)) (st : List Value) (h : xH) (out : xR) : Prop := match decode (xcode M) pc with
  | .ok q => xlen q.1 q.2 = true ∧ xStI P g M pc q.1 L st h out
  | .error _ => False
/-- the machine comes from here to that answer -/
def Ev (g : Nat × Nat × Nat) (M pc : Nat) (L : List (Option Value)) (st : List Value) (h : xH) (out : xR) : Prop :=
  ∀ P : xPr, (∀ M pc L st h out, xSt P g M pc L st h out → P M pc L st h out) → P M pc L st h out
theorem xaft_mono {P Q : xPr} (hPQ : ∀ M pc L st h out, P M pc L st h out → Q M pc L st h out) {M pc : Nat} {L : List (Option Value)} {r : List Value} {o out : xR} (h : xaft P M pc L r o out) : xaft Q M pc L r o out := by
  obtain ⟨v | E, h1⟩ := o
  · exact hPQ _ _ _ _ _ _ h
  · simp only [xaft] at h ⊢
    cases hh : xhh M with
    | nil => simpa [hh] using h
    | cons a b =>
      simp only [hh] at h ⊢
      cases hd : xhd M pc E with
      | none => simp [hd] at h
      | some t => simp only [hd] at h ⊢; exact fun q => hPQ _ _ _ _ _ _ (h q)
theorem xStI_mono {P Q : xPr} (hPQ : ∀ M pc L st h out, P M pc L st h out → Q M pc L st h out) {g : Nat × Nat × Nat} {M pc : Nat} {i : Instr} {L : List (Option Value)} {st : List Value} {h : xH} {out : xR} (hx : xStI P g M pc i L st h out) : xStI Q g M pc i L st h out := by
  unfold xStI at hx ⊢
  cases h1 : xth M pc with
  | some E => simpa [h1] using hx
  | none =>
    simp only [h1] at hx ⊢
    cases h2 : xrt M i st with
    | some v => simpa [h2] using hx
    | none =>
      simp only [h2] at hx ⊢
      cases h3 : xcall M i st h with
      | some q =>
        simp only [h3] at hx ⊢
        obtain ⟨o, k1, k2⟩ := hx
        exact ⟨o, hPQ _ _ _ _ _ _ k1, xaft_mono hPQ k2⟩
      | none =>
        simp only [h3] at hx ⊢
        cases h4 : xnx g M pc i L st h with
        | some q => simp only [h4] at hx ⊢; exact hPQ _ _ _ _ _ _ hx
        | none => simp [h4] at hx
theorem xSt_mono {P Q : xPr} (hPQ : ∀ M pc L st h out, P M pc L st h out → Q M pc L st h out) {g : Nat × Nat × Nat} {M pc : Nat} {L : List (Option Value)} {st : List Value} {h : xH} {out : xR} (hx : xSt P g M pc L st h out) : xSt Q g M pc L st h out := by
  unfold xSt at hx ⊢
  cases hd : decode (xcode M) pc with
  | error e => simp [hd] at hx
  | ok q => simp only [hd] at hx ⊢; exact ⟨hx.1, xStI_mono hPQ hx.2⟩
theorem Ev_in {g : Nat × Nat × Nat} {M pc : Nat} {L : List (Option Value)} {st : List Value} {h : xH} {out : xR} (hx : xSt (Ev g) g M pc L st h out) : Ev g M pc L st h out :=
  fun P hP => hP _ _ _ _ _ _ (xSt_mono (fun _ _ _ _ _ _ k => k P hP) hx)
theorem Ev_out {g : Nat × Nat × Nat} {M pc : Nat} {L : List (Option Value)} {st : List Value} {h : xH} {out : xR} (hx : Ev g M pc L st h out) : xSt (Ev g) g M pc L st h out :=
  hx (fun M pc L st h out => xSt (Ev g) g M pc L st h out) (fun _ _ _ _ _ _ k => xSt_mono (fun _ _ _ _ _ _ k2 => Ev_in k2) k)
theorem Ev_eq {g : Nat × Nat × Nat} {M pc : Nat} {i : Instr} {len : Nat} (hd : decode (xcode M) pc = .ok (i, len)) (hl : xlen i len = true) (L : List (Option Value)) (st : List Value) (h : xH) (out : xR) : Ev g M pc L st h out = xStI (Ev g) g M pc i L st h out := by
  apply propext
  constructor
  · intro k
    have := Ev_out k
    unfold xSt at this
    rw [hd] at this
    exact this.2
  · intro k
    apply Ev_in
    unfold xSt
    rw [hd]
    exact ⟨hl, k⟩
