/-! THE SMALL MACHINE: tables, a step, a run. -/
-- a method: its name, its class' number, its code, its locals, its answer, how many arguments (with the receiver), whether it is a constructor, its instructions, its handlers
abbrev ix_M : Type := MethodName × Nat × ByteArray × Nat × Option FieldType × Nat × Bool × List (Nat × Instr × Nat) × List (Nat × Nat × Nat × Nat)
-- a field by class and entry: the class of cells, the place, its type, whether it is final, a nest host
abbrev ix_F : Type := Nat × Nat × FieldType × Bool × Option String
-- a call by class and entry: its kind, the method, the receiver's class, a nest host
abbrev ix_K : Type := Nat × Nat × String × String
-- a static field: the class that has it, its name, its type, and what it holds
abbrev ix_G : Type := String × String × String × Value
-- a throw: the exception's class of cells, the entries of 'new', of its text and of its constructor, its class' name, the text, the classes above
abbrev ix_Xc : Type := Nat × Nat × Nat × Nat × String × String × List String
-- a handler: where, its entry, the class' name
abbrev ix_Hc : Type := Nat × Nat × String
/-- names of classes by number; methods; classes of cells; types of arrays; fields; calls; 'new' (class of cells, the fields' types); constants; types of arrays by entry; statics; the machine's own methods (0: Object(), 1: arraycopy, 2: clone); throws (method, place, class of cells); handlers (method, place, where); how many old cells -/
abbrev ix_P : Type := List String × List ix_M × List vw_C × List FieldType × List (Nat × Nat × ix_F) × List (Nat × Nat × ix_K) × List (Nat × Nat × Nat × List FieldType) × List (Nat × Nat × Value × String) × List (Nat × Nat × Nat) × List (Nat × Nat × ix_G) × List (Nat × Nat × Nat) × List (Nat × Nat × ix_Xc) × List (Nat × Nat × ix_Hc) × Nat
abbrev ix_ON (P : ix_P) : List String := P.1
abbrev ix_MT (P : ix_P) : List ix_M := P.2.1
abbrev ix_CL (P : ix_P) : List vw_C := P.2.2.1
abbrev ix_TY (P : ix_P) : List FieldType := P.2.2.2.1
abbrev ix_FT (P : ix_P) : List (Nat × Nat × ix_F) := P.2.2.2.2.1
abbrev ix_CT (P : ix_P) : List (Nat × Nat × ix_K) := P.2.2.2.2.2.1
abbrev ix_NT (P : ix_P) : List (Nat × Nat × Nat × List FieldType) := P.2.2.2.2.2.2.1
abbrev ix_KT (P : ix_P) : List (Nat × Nat × Value × String) := P.2.2.2.2.2.2.2.1
abbrev ix_AT (P : ix_P) : List (Nat × Nat × Nat) := P.2.2.2.2.2.2.2.2.1
abbrev ix_ST (P : ix_P) : List (Nat × Nat × ix_G) := P.2.2.2.2.2.2.2.2.2.1
abbrev ix_NV (P : ix_P) : List (Nat × Nat × Nat) := P.2.2.2.2.2.2.2.2.2.2.1
abbrev ix_XT (P : ix_P) : List (Nat × Nat × ix_Xc) := P.2.2.2.2.2.2.2.2.2.2.2.1
abbrev ix_HT (P : ix_P) : List (Nat × Nat × ix_Hc) := P.2.2.2.2.2.2.2.2.2.2.2.2.1
abbrev ix_NR (P : ix_P) : Nat := P.2.2.2.2.2.2.2.2.2.2.2.2.2
def ix_fd {α : Type} (a b : Nat) : List (Nat × Nat × α) → Option α
  | [] => none
  | (x, y, v) :: r => if x = a ∧ y = b then some v else ix_fd a b r
theorem ix_fd_mem {α : Type} {a b : Nat} {v : α} : ∀ {l : List (Nat × Nat × α)}, ix_fd a b l = some v → (a, b, v) ∈ l
  | [], h => by cases h
  | (x, y, w) :: r, h => by
    unfold ix_fd at h
    split at h
    · next c =>
      cases h
      rw [c.1, c.2]
      exact List.mem_cons_self
    · exact List.mem_cons_of_mem _ (ix_fd_mem h)
/-- behind a step: at a place, or at the end: with an answer, or with an exception (its place) -/
abbrev ix_S : Type := (Nat × ix_L × List Value × ix_H) ⊕ ((Option Value ⊕ Nat) × ix_H)
def ix_k1 (v : Value) : Bool := v.category == 1
def ix_tg (pc : Nat) (off : Int) : Nat := ((pc : Int) + off).toNat
def ix_ok (pc : Nat) (off : Int) : Bool := decide (0 ≤ (pc : Int) + off)
-- stacks
def ix_i {α : Type} (st : List Value) (f : Int32 → List Value → Option α) : Option α := match st with
  | .int x :: r => f x r
  | _ => none
def ix_ii {α : Type} (st : List Value) (f : Int32 → Int32 → List Value → Option α) : Option α := match st with
  | .int y :: .int x :: r => f x y r
  | _ => none
def ix_l {α : Type} (st : List Value) (f : Int64 → List Value → Option α) : Option α := match st with
  | .long x :: r => f x r
  | _ => none
def ix_ll {α : Type} (st : List Value) (f : Int64 → Int64 → List Value → Option α) : Option α := match st with
  | .long y :: .long x :: r => f x y r
  | _ => none
def ix_d {α : Type} (st : List Value) (f : UInt64 → List Value → Option α) : Option α := match st with
  | .double x :: r => f x r
  | _ => none
def ix_dd {α : Type} (st : List Value) (f : UInt64 → UInt64 → List Value → Option α) : Option α := match st with
  | .double y :: .double x :: r => f x y r
  | _ => none
def ix_r {α : Type} (st : List Value) (f : Nat → List Value → Option α) : Option α := match st with
  | .ref x :: r => f x r
  | _ => none
/-- a reference or null -/
def ix_a {α : Type} (st : List Value) (f : Value → List Value → Option α) : Option α := match st with
  | .ref x :: r => f (.ref x) r
  | .null :: r => f .null r
  | _ => none
def ix_ir {α : Type} (st : List Value) (f : Int32 → Nat → List Value → Option α) : Option α := match st with
  | .int i :: .ref x :: r => f i x r
  | _ => none
def ix_iir {α : Type} (st : List Value) (f : Int32 → Int32 → Nat → List Value → Option α) : Option α := match st with
  | .int v :: .int i :: .ref x :: r => f v i x r
  | _ => none
def ix_lir {α : Type} (st : List Value) (f : Int64 → Int32 → Nat → List Value → Option α) : Option α := match st with
  | .long v :: .int i :: .ref x :: r => f v i x r
  | _ => none
def ix_vr {α : Type} (st : List Value) (f : Value → Nat → List Value → Option α) : Option α := match st with
  | v :: .ref x :: r => f v x r
  | _ => none
def ix_ic (c : ClassFile.Cond) (x y : Int32) : Bool := match c with
  | .eq => decide (x = y)
  | .ne => decide (¬ x = y)
  | .lt => decide (x < y)
  | .ge => decide (y ≤ x)
  | .gt => decide (y < x)
  | .le => decide (x ≤ y)
/-- whether a field of a type may hold a value as it stands -/
def ix_ft (ty : FieldType) (v : Value) : Bool := match ty, v with
  | .int, .int _ => true
  | .boolean, .int x => decide (x = 0) || decide (x = 1)
  | .byte, .int x => decide (x.toInt8.toInt32 = x)
  | .char, .int x => decide ((x.toUInt32 % 65536).toInt32 = x)
  | .long, .long _ => true
  | .double, .double _ => true
  | .object _, .ref _ => true
  | .object _, .null => true
  | .array _, .ref _ => true
  | .array _, .null => true
  | _, _ => false
def ix_go (pc : Nat) (lv : ix_L) (st : List Value) (h : ix_H) : Option ix_S := some (.inl (pc, lv, st, h))
def ix_br (b : Bool) (pc : Nat) (off : Int) (lv : ix_L) (st : List Value) (h : ix_H) : Option ix_S :=
  if ix_ok pc off then (if b then ix_go (ix_tg pc off) lv st h else ix_go (pc + 3) lv st h) else none
def ix_ld (i len : Nat) (pc : Nat) (lv : ix_L) (st : List Value) (h : ix_H) (g : Value → Bool) : Option ix_S := match lv[i]? with
  | some (some v) => if g v then ix_go (pc + len) lv (v :: st) h else none
  | _ => none
def ix_gi : Value → Bool | .int _ => true | _ => false
def ix_gl : Value → Bool | .long _ => true | _ => false
def ix_gd : Value → Bool | .double _ => true | _ => false
def ix_ga : Value → Bool | .ref _ => true | .null => true | _ => false
def ix_sv (i len : Nat) (pc : Nat) (lv : ix_L) (st : List Value) (h : ix_H) (g : Value → Bool) : Option ix_S := match st with
  | v :: r => if g v && decide (i < lv.length) then ix_go (pc + len) (ix_st i v lv) r h else none
  | _ => none
def ix_sv2 (i len : Nat) (pc : Nat) (lv : ix_L) (st : List Value) (h : ix_H) (g : Value → Bool) : Option ix_S := match st with
  | v :: r => if g v && decide (i + 1 < lv.length) then ix_go (pc + len) (ix_st2 i v lv) r h else none
  | _ => none
def ix_rt (ret : Option FieldType) (st : List Value) (h : ix_H) : Option ix_S := match ret, st with
  | some ty, [v] => if ix_ft ty v then some (.inr (.inl (some v), h)) else none
  | _, _ => none
/-- which instruction answers a type -/
def ix_rk : Option FieldType → Nat
  | some .int => 1
  | some .boolean => 1
  | some .byte => 1
  | some .char => 1
  | some .long => 2
  | some .double => 3
  | some (.object _) => 4
  | some (.array _) => 4
  | _ => 0
def ix_sl (vs : List Value) : ix_L := vs.flatMap fun v => if v.category = 2 then [some v, none] else [some v]
def ix_rf : Option Nat → Value
  | none => .null
  | some k => .ref k
def ix_in (i : Int32) (n : Nat) : Bool := decide (0 ≤ i.toInt) && decide (i.toInt < n)
-- arrays and objects
def ix_ob {α : Type} (h : ix_H) (o : Nat) (f : Nat → List Value → Option α) : Option α := match h[o]? with
  | some (.inr (c, fs)) => f c fs
  | _ => none
def ix_ai {α : Type} (h : ix_H) (o : Nat) (f : Nat → Nat → (Nat → Int32) → Option α) : Option α := match h[o]? with
  | some (.inl (t, n, .inl a)) => f t n a
  | _ => none
def ix_all {α : Type} (h : ix_H) (o : Nat) (f : Nat → Nat → (Nat → Int64) → Option α) : Option α := match h[o]? with
  | some (.inl (t, n, .inr (.inl a))) => f t n a
  | _ => none
def ix_aq {α : Type} (h : ix_H) (o : Nat) (f : Nat → Nat → (Nat → Option Nat) → Option α) : Option α := match h[o]? with
  | some (.inl (t, n, .inr (.inr (.inr (.inr a))))) => f t n a
  | _ => none
def ix_ar {α : Type} (h : ix_H) (o : Nat) (f : Nat → Nat → Option α) : Option α := match h[o]? with
  | some (.inl (t, n, _)) => f t n
  | _ => none
def ix_z (ty : FieldType) : (Nat → Int32) ⊕ (Nat → Int64) ⊕ (Nat → UInt32) ⊕ (Nat → UInt64) ⊕ (Nat → Option Nat) := match ty with
  | .long => .inr (.inl (fun _ => 0))
  | .object _ => .inr (.inr (.inr (.inr (fun _ => none))))
  | .array _ => .inr (.inr (.inr (.inr (fun _ => none))))
  | _ => .inl (fun _ => 0)
/-- places of the primitive types in the table of types -/
def ix_pt : ArrayType → Option Nat
  | .int => some 0
  | .long => some 1
  | .byte => some 2
  | .boolean => some 3
  | _ => none
def ix_big (n : Int32) : Bool := decide (0 ≤ n.toInt) && decide (n.toInt ≤ 50000000)
/-- a class' place of an object -/
def ix_is (P : ix_P) (h : ix_H) (k : Nat) (C : String) : Bool := match h[k]? with
  | some (.inr (c, _)) => match (ix_CL P)[c]? with
    | some r => r.1 == C
    | none => false
  | _ => false
def ix_rir {α : Type} (st : List Value) (f : Nat → Int32 → Nat → List Value → Option α) : Option α := match st with
  | .ref v :: .int i :: .ref x :: r => f v i x r
  | _ => none
/-- new int[n][k] -/
def ix_gr (q n k : Nat) : ix_H := .inl (5, n, .inr (.inr (.inr (.inr (fun j => if j < n then some (q + 1 + j) else none))))) :: List.replicate n (.inl (0, k, .inl (fun _ => 0)))
/-- System.arraycopy of ints or bytes -/
def ix_cy (P : ix_P) (pc : Nat) (lv : ix_L) (st : List Value) (h : ix_H) : Option ix_S := match st with
  | .int n :: .int dp :: .ref d :: .int sp :: .ref o :: r => ix_ai h o (fun t n0 f => ix_ai h d (fun t' n1 g => if ix_NR P ≤ d ∧ o ≠ d ∧ (t = 0 ∧ ix_NR P ≤ o ∨ t = 2) ∧ t' = t ∧ ¬ sp < 0 ∧ ¬ dp < 0 ∧ ¬ n < 0 ∧ sp.toNatClampNeg + n.toNatClampNeg ≤ n0 ∧ dp.toNatClampNeg + n.toNatClampNeg ≤ n1 ∧ (r.map Value.category).sum ≤ 8 then ix_go (pc + 3) lv r (h.set d (.inl (t, n1, .inl (va_cpy f g sp.toNatClampNeg dp.toNatClampNeg n.toNatClampNeg)))) else none))
  | _ => none
/-- a step that is no call -/
def ix_s1 (P : ix_P) (mi : ix_M) (pc : Nat) (lv : ix_L) (st : List Value) (h : ix_H) (len : Nat) (ins : Instr) : Option ix_S := match ins with
  | .iconst n => if len = 1 then ix_go (pc + 1) lv (.int (Int32.ofInt n) :: st) h else none
  | .bipush n => if len = 2 then ix_go (pc + 2) lv (.int (Int8.ofInt n).toInt32 :: st) h else none
  | .sipush n => if len = 3 then ix_go (pc + 3) lv (.int (Int16.ofInt n).toInt32 :: st) h else none
  | .lconst n => if len = 1 then ix_go (pc + 1) lv (.long (Int64.ofNat n) :: st) h else none
  | .aconst_null => if len = 1 then ix_go (pc + 1) lv (.null :: st) h else none
  | .dconst n => if len = 1 ∧ n = 0 then ix_go (pc + 1) lv (.double 0 :: st) h else none
  | .ldc i => if len = 2 then (match ix_fd mi.2.1 i (ix_KT P) with
    | some (.int x, _) => ix_go (pc + 2) lv (.int x :: st) h
    | some (.ref x, _) => if x < ix_NR P then ix_go (pc + 2) lv (.ref x :: st) h else none
    | _ => none) else none
  | .getstatic i => if len = 3 then (match ix_fd mi.2.1 i (ix_ST P) with
    | some (_, _, _, .int x) => ix_go (pc + 3) lv (.int x :: st) h
    | some (_, _, _, .null) => ix_go (pc + 3) lv (.null :: st) h
    | some (_, _, _, .ref x) => if x < ix_NR P then ix_go (pc + 3) lv (.ref x :: st) h else none
    | _ => none) else none
  | .ldc_w i => if len = 3 then (match ix_fd mi.2.1 i (ix_KT P) with
    | some (.int x, _) => ix_go (pc + 3) lv (.int x :: st) h
    | _ => none) else none
  | .ldc2_w i => if len = 3 then (match ix_fd mi.2.1 i (ix_KT P) with
    | some (.long x, _) => ix_go (pc + 3) lv (.long x :: st) h
    | _ => none) else none
  | .iload i => if len = 2 then ix_ld i 2 pc lv st h ix_gi else none
  | .iload_n i => if len = 1 then ix_ld i 1 pc lv st h ix_gi else none
  | .lload i => if len = 2 then ix_ld i 2 pc lv st h ix_gl else none
  | .lload_n i => if len = 1 then ix_ld i 1 pc lv st h ix_gl else none
  | .dload i => if len = 2 then ix_ld i 2 pc lv st h ix_gd else none
  | .dload_n i => if len = 1 then ix_ld i 1 pc lv st h ix_gd else none
  | .aload i => if len = 2 then ix_ld i 2 pc lv st h ix_ga else none
  | .aload_n i => if len = 1 then ix_ld i 1 pc lv st h ix_ga else none
  | .istore i => if len = 2 then ix_sv i 2 pc lv st h ix_gi else none
  | .istore_n i => if len = 1 then ix_sv i 1 pc lv st h ix_gi else none
  | .astore i => if len = 2 then ix_sv i 2 pc lv st h ix_ga else none
  | .astore_n i => if len = 1 then ix_sv i 1 pc lv st h ix_ga else none
  | .lstore i => if len = 2 then ix_sv2 i 2 pc lv st h ix_gl else none
  | .lstore_n i => if len = 1 then ix_sv2 i 1 pc lv st h ix_gl else none
  | .iinc i n => if len = 3 ∧ i < lv.length then (match lv[i]? with
    | some (some (.int x)) => ix_go (pc + 3) (ix_st i (.int (x + Int32.ofInt n)) lv) st h
    | _ => none) else none
  | .pop => if len = 1 then (match st with
    | v :: r => if ix_k1 v then ix_go (pc + 1) lv r h else none
    | _ => none) else none
  | .dup => if len = 1 then (match st with
    | v :: r => if ix_k1 v then ix_go (pc + 1) lv (v :: v :: r) h else none
    | _ => none) else none
  | .dup_x1 => if len = 1 then (match st with
    | v :: w :: r => if ix_k1 v && ix_k1 w then ix_go (pc + 1) lv (v :: w :: v :: r) h else none
    | _ => none) else none
  | .dup2 => if len = 1 then (match st with
    | v :: w :: r => if ix_k1 v && ix_k1 w then ix_go (pc + 1) lv (v :: w :: v :: w :: r) h else none
    | _ => none) else none
  | .iadd => if len = 1 then ix_ii st (fun x y r => ix_go (pc + 1) lv (.int (x + y) :: r) h) else none
  | .isub => if len = 1 then ix_ii st (fun x y r => ix_go (pc + 1) lv (.int (x - y) :: r) h) else none
  | .imul => if len = 1 then ix_ii st (fun x y r => ix_go (pc + 1) lv (.int (x * y) :: r) h) else none
  | .idiv => if len = 1 then ix_ii st (fun x y r => if y = 0 then none else ix_go (pc + 1) lv (.int (x / y) :: r) h) else none
  | .irem => if len = 1 then ix_ii st (fun x y r => if y = 0 then none else ix_go (pc + 1) lv (.int (x - x / y * y) :: r) h) else none
  | .iand => if len = 1 then ix_ii st (fun x y r => ix_go (pc + 1) lv (.int (x &&& y) :: r) h) else none
  | .ior => if len = 1 then ix_ii st (fun x y r => ix_go (pc + 1) lv (.int (x ||| y) :: r) h) else none
  | .ixor => if len = 1 then ix_ii st (fun x y r => ix_go (pc + 1) lv (.int (x ^^^ y) :: r) h) else none
  | .ishl => if len = 1 then ix_ii st (fun x y r => ix_go (pc + 1) lv (.int (x <<< (y &&& 31)) :: r) h) else none
  | .ishr => if len = 1 then ix_ii st (fun x y r => ix_go (pc + 1) lv (.int (x >>> (y &&& 31)) :: r) h) else none
  | .iushr => if len = 1 then ix_ii st (fun x y r => ix_go (pc + 1) lv (.int (x.toUInt32 >>> (y.toUInt32 &&& Int32.toUInt32 31)).toInt32 :: r) h) else none
  | .ineg => if len = 1 then ix_i st (fun x r => ix_go (pc + 1) lv (.int (-x) :: r) h) else none
  | .i2l => if len = 1 then ix_i st (fun x r => ix_go (pc + 1) lv (.long x.toInt64 :: r) h) else none
  | .i2b => if len = 1 then ix_i st (fun x r => ix_go (pc + 1) lv (.int x.toInt8.toInt32 :: r) h) else none
  | .i2c => if len = 1 then ix_i st (fun x r => ix_go (pc + 1) lv (.int (x.toUInt32 % 65536).toInt32 :: r) h) else none
  | .i2d => if len = 1 then ix_i st (fun x r => ix_go (pc + 1) lv (.double (FP.i2d x) :: r) h) else none
  | .l2i => if len = 1 then ix_l st (fun x r => ix_go (pc + 1) lv (.int x.toInt32 :: r) h) else none
  | .ladd => if len = 1 then ix_ll st (fun x y r => ix_go (pc + 1) lv (.long (x + y) :: r) h) else none
  | .lmul => if len = 1 then ix_ll st (fun x y r => ix_go (pc + 1) lv (.long (x * y) :: r) h) else none
  | .lcmp => if len = 1 then ix_ll st (fun x y r => ix_go (pc + 1) lv (.int (lg_cmp x y) :: r) h) else none
  | .dcmp op => if len = 1 then ix_dd st (fun x y r => ix_go (pc + 1) lv (.int (Op.cmpValue (FP.dcmp x y) op) :: r) h) else none
  | .ddiv => if len = 1 then ix_dd st (fun x y r => if FP.ddiv x y &&& 0x7fffffffffffffff ≤ 0x7ff0000000000000 then ix_go (pc + 1) lv (.double (FP.ddiv x y) :: r) h else none) else none
  | .goto off => if len = 3 ∧ ix_ok pc off then ix_go (ix_tg pc off) lv st h else none
  | .ifCond c off => if len = 3 then ix_i st (fun x r => ix_br (ix_ic c x 0) pc off lv r h) else none
  | .if_icmp c off => if len = 3 then ix_ii st (fun x y r => ix_br (ix_ic c x y) pc off lv r h) else none
  | .tableswitch dflt lo hi offs => ix_i st (fun x r => if x.toInt < lo ∨ hi < x.toInt then (if ix_ok pc dflt then ix_go (ix_tg pc dflt) lv r h else none) else (match offs[(x.toInt - lo).toNat]? with
    | some off => if ix_ok pc off then ix_go (ix_tg pc off) lv r h else none
    | none => none))
  | .lookupswitch dflt ps => if (ps.toList.zip (ps.toList.drop 1)).all (fun (a, next) => a.1 < next.1) then ix_i st (fun x r => if ix_ok pc (Op.lookupswitch.offset ps.toList dflt x.toInt) then ix_go (ix_tg pc (Op.lookupswitch.offset ps.toList dflt x.toInt)) lv r h else none) else none
  | .getfield i => if len = 3 then ix_r st (fun o r => match ix_fd mi.2.1 i (ix_FT P) with
    | some e => ix_ob h o (fun c fs => if (ix_NR P ≤ o ∨ e.2.2.2.2 = none) ∧ c = e.1 then (match fs[e.2.1]? with
      | some v => ix_go (pc + 3) lv (v :: r) h
      | none => none) else none)
    | none => none) else none
  | .putfield i => if len = 3 then ix_vr st (fun v o r => match ix_fd mi.2.1 i (ix_FT P) with
    | some e => ix_ob h o (fun c fs => if ix_NR P ≤ o ∧ c = e.1 ∧ e.2.1 < fs.length ∧ ix_ft e.2.2.1 v = true ∧ (e.2.2.2.1 = false ∨ (mi.2.2.2.2.2.2.1 = true ∧ e.2.2.2.2 = none)) then ix_go (pc + 3) lv r (h.set o (.inr (c, fs.set e.2.1 v))) else none)
    | none => none) else none
  | .iaload => if len = 1 then ix_ir st (fun i o r => ix_ai h o (fun t n a => if t = 0 ∧ ix_in i n = true then ix_go (pc + 1) lv (.int (a i.toNatClampNeg) :: r) h else none)) else none
  | .baload => if len = 1 then ix_ir st (fun i o r => ix_ai h o (fun t n a => if (t = 2 ∨ t = 3) ∧ ix_in i n = true then ix_go (pc + 1) lv (.int (a i.toNatClampNeg) :: r) h else none)) else none
  | .laload => if len = 1 then ix_ir st (fun i o r => ix_all h o (fun t n a => if t = 1 ∧ ix_in i n = true then ix_go (pc + 1) lv (.long (a i.toNatClampNeg) :: r) h else none)) else none
  | .aaload => if len = 1 then ix_ir st (fun i o r => ix_aq h o (fun t n a => if ix_NR P ≤ o ∧ t = 5 ∧ ix_in i n = true then ix_go (pc + 1) lv (ix_rf (a i.toNatClampNeg) :: r) h else none)) else none
  | .iastore => if len = 1 then ix_iir st (fun v i o r => ix_ai h o (fun t n a => if ix_NR P ≤ o ∧ t = 0 ∧ ix_in i n = true then ix_go (pc + 1) lv r (h.set o (.inl (t, n, .inl (upd a i.toNatClampNeg v)))) else none)) else none
  | .bastore => if len = 1 then ix_iir st (fun v i o r => ix_ai h o (fun t n a => if ix_NR P ≤ o ∧ ((t = 2 ∧ ix_ft .byte (.int v) = true) ∨ (t = 3 ∧ ix_ft .boolean (.int v) = true)) ∧ ix_in i n = true then ix_go (pc + 1) lv r (h.set o (.inl (t, n, .inl (upd a i.toNatClampNeg v)))) else none)) else none
  | .lastore => if len = 1 then ix_lir st (fun v i o r => ix_all h o (fun t n a => if ix_NR P ≤ o ∧ t = 1 ∧ ix_in i n = true then ix_go (pc + 1) lv r (h.set o (.inl (t, n, .inr (.inl (vp_updL a i.toNatClampNeg v))))) else none)) else none
  | .arraylength => if len = 1 then ix_r st (fun o r => ix_ar h o (fun t n => match (ix_TY P)[t]? with
    | some _ => ix_go (pc + 1) lv (.int (Int32.ofNat n) :: r) h
    | none => none)) else none
  | .newarray a => if len = 2 then ix_i st (fun n r => match ix_pt a with
    | some t => if ix_big n then ix_go (pc + 2) lv (.ref h.length :: r) (h ++ [.inl (t, n.toNatClampNeg, ix_z (newarray.typeOf a))]) else none
    | none => none) else none
  | .new i => if len = 3 then (match ix_fd mi.2.1 i (ix_NT P) with
    | some e => ix_go (pc + 3) lv (.ref h.length :: st) (h ++ [.inr (e.1, e.2.map defaultValue)])
    | none => none) else none
  | .aastore => if len = 1 then ix_rir st (fun v i o r => ix_aq h o (fun t n a => ix_ai h v (fun t' _ _ => if ix_NR P ≤ o ∧ ix_NR P ≤ v ∧ t = 5 ∧ t' = 0 ∧ ix_in i n = true then ix_go (pc + 1) lv r (h.set o (.inl (t, n, .inr (.inr (.inr (.inr (va_up a i.toNatClampNeg (some v)))))))) else none))) else none
  | .anewarray i => if len = 3 then ix_i st (fun n r => if ix_fd mi.2.1 i (ix_AT P) = some 5 ∧ ix_big n = true then ix_go (pc + 3) lv (.ref h.length :: r) (h ++ [.inl (5, n.toNatClampNeg, ix_z (.array .int))]) else none) else none
  | .multianewarray i dims => if len = 4 ∧ dims = 2 ∧ ix_fd mi.2.1 i (ix_AT P) = some 6 then ix_ii st (fun n k r => if ix_big n = true ∧ ix_big k = true then ix_go (pc + 4) lv (.ref h.length :: r) (h ++ ix_gr h.length n.toNatClampNeg k.toNatClampNeg) else none) else none
  | .checkcast i => if len = 3 then ix_r st (fun o r => ix_ar h o (fun t _ => if ix_NR P ≤ o ∧ t = 2 ∧ ix_fd mi.2.1 i (ix_AT P) = some 2 then ix_go (pc + 3) lv (.ref o :: r) h else none)) else none
  | .invokespecial i => if len = 3 ∧ ix_fd mi.2.1 i (ix_NV P) = some 0 then ix_r st (fun _ r => if (r.map Value.category).sum ≤ 8 then ix_go (pc + 3) lv r h else none) else none
  | .invokestatic i => if len = 3 ∧ ix_fd mi.2.1 i (ix_NV P) = some 1 then ix_cy P pc lv st h else if len = 3 ∧ ix_fd mi.2.1 i (ix_NV P) = some 3 then ix_ii st (fun x y r => if (r.map Value.category).sum ≤ 8 then ix_go (pc + 3) lv (.int (if x < y then y else x) :: r) h else none) else if len = 3 ∧ ix_fd mi.2.1 i (ix_NV P) = some 4 then ix_ii st (fun x y r => if (r.map Value.category).sum ≤ 8 then ix_go (pc + 3) lv (.int (if y < x then y else x) :: r) h else none) else none
  | .invokevirtual i => if len = 3 ∧ ix_fd mi.2.1 i (ix_NV P) = some 2 then ix_r st (fun o r => ix_ai h o (fun t n a => if ix_NR P ≤ o ∧ t = 2 ∧ (r.map Value.category).sum ≤ 8 then ix_go (pc + 3) lv (.ref h.length :: r) (h ++ [.inl (2, n, .inl a)]) else none)) else none
  | .ifnull off => if len = 3 then ix_a st (fun v r => ix_br (decide (v = .null)) pc off lv r h) else none
  | .ifnonnull off => if len = 3 then ix_a st (fun v r => ix_br (decide (¬ v = .null)) pc off lv r h) else none
  | .ireturn => if len = 1 ∧ ix_rk mi.2.2.2.2.1 = 1 then ix_rt mi.2.2.2.2.1 st h else none
  | .lreturn => if len = 1 ∧ ix_rk mi.2.2.2.2.1 = 2 then ix_rt mi.2.2.2.2.1 st h else none
  | .dreturn => if len = 1 ∧ ix_rk mi.2.2.2.2.1 = 3 then ix_rt mi.2.2.2.2.1 st h else none
  | .areturn => if len = 1 ∧ ix_rk mi.2.2.2.2.1 = 4 then ix_rt mi.2.2.2.2.1 st h else none
  | .return_ => if len = 1 ∧ st = [] ∧ mi.2.2.2.2.1 = none then some (.inr (.inl none, h)) else none
  | _ => none
/-- a call: of which method, with what, over what -/
def ix_s2 (P : ix_P) (mi : ix_M) (st : List Value) (h : ix_H) (i : Nat) (ins : Nat) : Option (ix_K × ix_M × List Value × List Value) := match ix_fd mi.2.1 i (ix_CT P) with
  | none => none
  | some k => match (ix_MT P)[k.2.1]? with
    | none => none
    | some me => if k.1 % 3 = ins ∧ me.2.2.2.2.2.1 ≤ st.length ∧ ((st.drop me.2.2.2.2.2.1).map Value.category).sum ≤ 8 ∧ (ix_sl (st.take me.2.2.2.2.2.1).reverse).length ≤ me.2.2.2.1 ∧ (k.1 % 3 = 1 ∨ (match st[me.2.2.2.2.2.1 - 1]? with
        | some (.ref o) => decide (me.2.2.2.2.2.1 ≠ 0) && ix_is P h o k.2.2.1
        | _ => false) = true) then some (k, me, (st.take me.2.2.2.2.2.1).reverse, st.drop me.2.2.2.2.2.1) else none
def ix_cl (P : ix_P) (mi : ix_M) (st : List Value) (h : ix_H) (len : Nat) (ins : Instr) : Option (ix_K × ix_M × List Value × List Value) := match ins with
  | .invokevirtual i => if len = 3 then ix_s2 P mi st h i 0 else none
  | .invokestatic i => if len = 3 then ix_s2 P mi st h i 1 else none
  | .invokespecial i => if len = 3 then ix_s2 P mi st h i 2 else none
  | _ => none
/-- a place where a method makes an exception and throws it -/
def ix_tw (P : ix_P) (mid pc : Nat) (st : List Value) (h : ix_H) (ins : Instr) : Option ((Option Value ⊕ Nat) × ix_H) := match ins with
  | .new _ => match ix_fd mid pc (ix_XT P) with
    | some x => if (st.map Value.category).sum ≤ 8 then some (.inr x.1, h ++ [.inr (x.1, [])]) else none
    | none => none
  | _ => none
/-- the instruction at a place -/
def ix_dc : List (Nat × Instr × Nat) → Nat → Option (Instr × Nat)
  | [], _ => none
  | (q, i, n) :: r, pc => if q = pc then some (i, n) else ix_dc r pc
def ix_en (nL : Nat) (vs : List Value) : ix_L := ix_sl vs ++ List.replicate (nL - (ix_sl vs).length) none
abbrev ix_R : Type := Option (Option Value ⊕ Nat) × ix_H
/-- a catch: the exception's place is forgotten -/
def ix_ca (P : ix_P) (mid : Nat) (mi : ix_M) (lv : ix_L) (pc x : Nat) : Option (Nat × ix_L) := match ix_fd mid pc (ix_HT P), (ix_CL P)[x]? with
  | some hc, some row => match ix_dc mi.2.2.2.2.2.2.2.1 hc.1 with
    | some (.astore i, 2) => if i < lv.length ∧ row.1 = hc.2.2 then some (hc.1 + 2, (ix_st i .null lv).set i none) else none
    | _ => none
  | _, _ => none
/-- a run, with so much fuel, so deep at most: its end, and the heap behind it -/
def ix_ex (P : ix_P) : Nat → Nat → Nat → Nat → ix_L → List Value → ix_H → Option ((Option Value ⊕ Nat) × ix_H)
  | 0, _, _, _, _, _, _ => none
  | n + 1, d, mid, pc, lv, st, h => match (ix_MT P)[mid]? with
    | none => none
    | some mi => match ix_dc mi.2.2.2.2.2.2.2.1 pc with
      | none => none
      | some (ins, len) => match ix_tw P mid pc st h ins with
        | some r => some r
        | none => match ix_cl P mi st h len ins with
          | some (k, me, as, rest) => (match d with
            | 0 => none
            | d' + 1 => match ix_ex P n d' k.2.1 0 (ix_en me.2.2.2.1 as) [] h with
              | some (.inl v, h') => ix_ex P n (d' + 1) mid (pc + 3) lv (v.toList ++ rest) h'
              | some (.inr x, h') => (match ix_ca P mid mi lv pc x with
                | some (pc', lv') => ix_ex P n (d' + 1) mid pc' lv' [] h'
                | none => none)
              | none => none)
          | none => match ix_s1 P mi pc lv st h len ins with
            | some (.inl (pc', lv', st', h')) => ix_ex P n d mid pc' lv' st' h'
            | some (.inr r) => some r
            | none => none
