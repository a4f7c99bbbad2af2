/-! WHAT THE TABLES MUST SAY, and what holds between the small machine's state and the JVM's. -/
def ix_fw (own : String) (i : Nat) (r : vw_C) (k : Nat) : Option String → Cond
  | none => .fieldLink own i (r.2.1 k).1 (r.2.1 k).2.1 (r.2.1 k).2.2.1
  | some g => .fieldLinkNest own i (r.2.1 k).1 (r.2.1 k).2.1 (r.2.1 k).2.2.1 g
def ix_wF (P : ix_P) (e : Nat × Nat × ix_F) : List Cond := match (ix_ON P)[e.1]?, (ix_CL P)[e.2.2.1]? with
  | some own, some r => [ix_fw own e.2.1 r e.2.2.2.1 e.2.2.2.2.2.2]
  | _, _ => []
def ix_wN (P : ix_P) (e : Nat × Nat × Nat × List FieldType) : List Cond := match (ix_ON P)[e.1]?, (ix_CL P)[e.2.2.1]? with
  | some own, some r => [.classLink own e.2.1 r.1, .instantiable r.1 r.2.2, .initialized r.1]
  | _, _ => []
def ix_wK (P : ix_P) (e : Nat × Nat × Value × String) : List Cond := match (ix_ON P)[e.1]?, e.2.2.1 with
  | some own, .int v => [.constant own e.2.1 v]
  | some own, .long v => [.constantLong own e.2.1 v]
  | _, _ => []
/-- a call's words. kinds: 0 virtual, 1 static, 2 constructor; 3, 4, 5 the same of a private method of a nest mate; 6 virtual, of a class above; 8 a method of the class above; 9 virtual, of a class above, overridden; 10 static, of a method with handlers -/
def ix_wC (P : ix_P) (e : Nat × Nat × ix_K) : List Cond := match (ix_ON P)[e.1]?, (ix_MT P)[e.2.2.2.1]? with
  | some own, some me => .initialized me.1.cls ::
    (if e.2.2.1 = 6 then [.methodLink own e.2.1 me.1, .sameMethod me.1.cls me.1.cls me.1.name me.1.desc, .selects e.2.2.2.2.1 me.1 me.1, .instanceMethod me.1]
    else if e.2.2.1 = 8 then [.methodLink own e.2.1 me.1, .sameMethod me.1.cls me.1.cls me.1.name me.1.desc, .superclass own me.1.cls, .instanceMethod me.1]
    else if e.2.2.1 = 9 then [.methodLink own e.2.1 ⟨e.2.2.2.2.2, me.1.name, me.1.desc⟩, .sameMethod e.2.2.2.2.2 e.2.2.2.2.2 me.1.name me.1.desc, .selects e.2.2.2.2.1 ⟨e.2.2.2.2.2, me.1.name, me.1.desc⟩ me.1, .instanceMethod me.1, .instanceMethod ⟨e.2.2.2.2.2, me.1.name, me.1.desc⟩]
    else (if e.2.2.1 < 3 ∨ e.2.2.1 = 10 then Cond.methodLink own e.2.1 me.1 else Cond.methodLinkNest own e.2.1 me.1 e.2.2.2.2.2) ::
      (if e.2.2.1 % 3 = 0 then [.instanceMethod me.1, .selects e.2.2.2.2.1 me.1 me.1] else if e.2.2.1 % 3 = 1 then [.static me.1] else [.instanceMethod me.1]))
  | _, _ => []
def ix_wM (me : ix_M) : Cond := if me.2.2.2.2.2.2.2.2 = [] then .code me.1 me.2.2.1 me.2.2.2.1 me.2.2.2.2.1 else .codeWith me.1 me.2.2.1 me.2.2.2.1 me.2.2.2.2.1 me.2.2.2.2.2.2.2.2
def ix_wS (P : ix_P) (e : Nat × Nat × ix_G) : List Cond := match (ix_ON P)[e.1]? with
  | some own => [.fieldLink own e.2.1 e.2.2.1 e.2.2.2.1 e.2.2.2.2.1]
  | none => []
def ix_wA (P : ix_P) (e : Nat × Nat × Nat) : List Cond := match (ix_ON P)[e.1]? with
  | some own => if e.2.2 = 2 then [.classLink own e.2.1 "[B"] else [.classLink own e.2.1 (if e.2.2 = 5 then "[I" else "[[I")]
  | none => []
def ix_wV (P : ix_P) (e : Nat × Nat × Nat) : List Cond := match (ix_ON P)[e.1]? with
  | some own => if e.2.2 = 0 then [.methodLink own e.2.1 objectInit, .instanceMethod objectInit, .code objectInit ⟨#[0xb1]⟩ 1 none]
    else if e.2.2 = 1 then [.methodLink own e.2.1 arraycopyName, .native arraycopyName, .static arraycopyName, .initialized "java/lang/System"]
    else if e.2.2 = 3 then [.methodLink own e.2.1 Lib.Math.max.name, .static Lib.Math.max.name, .initialized "java/lang/Math", .code Lib.Math.max.name Lib.Math.max.code 2 (some .int)]
    else if e.2.2 = 4 then [.methodLink own e.2.1 Lib.Math.min.name, .static Lib.Math.min.name, .initialized "java/lang/Math", .code Lib.Math.min.name Lib.Math.min.code 2 (some .int)]
    else [.methodLink own e.2.1 ⟨"[B", "clone", "()Ljava/lang/Object;"⟩, .sameMethod "[B" "java/lang/Object" "clone" "()Ljava/lang/Object;", .native ⟨"java/lang/Object", "clone", "()Ljava/lang/Object;"⟩, .instanceMethod ⟨"java/lang/Object", "clone", "()Ljava/lang/Object;"⟩,
      .selects "[B" ⟨"[B", "clone", "()Ljava/lang/Object;"⟩ ⟨"java/lang/Object", "clone", "()Ljava/lang/Object;"⟩, .castable "[B" "java/lang/Cloneable"]
  | none => []
def ix_wX (P : ix_P) (e : Nat × Nat × ix_Xc) : List Cond := match (ix_MT P)[e.1]? with
  | some me => match (ix_ON P)[me.2.1]? with
    | some own => .classLink own e.2.2.2.1 e.2.2.2.2.2.2.1 :: .initialized e.2.2.2.2.2.2.1 :: vx_atS own e.2.2.2.2.2.1 e.2.2.2.2.2.2.1 e.2.2.2.2.2.2.2.2
    | none => []
  | none => []
def ix_wH (P : ix_P) (e : Nat × Nat × ix_Hc) : List Cond := match (ix_MT P)[e.1]? with
  | some me => match (ix_ON P)[me.2.1]? with
    | some own => [.classLink own e.2.2.2.1 e.2.2.2.2, .castable e.2.2.2.2 e.2.2.2.2]
    | none => []
  | none => []
def ix_pr : List FieldType → List Cond
  | [] => []
  | ty :: r => (match ty with
    | .object _ => []
    | .array t => [Cond.arrayOver (.array t)]
    | t => [Cond.arrayClass t]) ++ ix_pr r
/-- all words -/
def ix_WL (P : ix_P) : List Cond :=
  (ix_CL P).flatMap (fun r => u_ws r.1 r.2.1 r.2.2) ++ ((ix_FT P).flatMap (ix_wF P) ++ ((ix_NT P).flatMap (ix_wN P) ++ ((ix_KT P).flatMap (ix_wK P) ++ ((ix_CT P).flatMap (ix_wC P) ++ ((ix_MT P).tail.map ix_wM ++ (ix_pr (ix_TY P) ++ ((ix_ST P).flatMap (ix_wS P) ++ ((ix_AT P).flatMap (ix_wA P) ++ ((ix_NV P).flatMap (ix_wV P) ++ ((ix_XT P).flatMap (ix_wX P) ++ (ix_HT P).flatMap (ix_wH P)))))))))))
/-- a word that stays when the tables get warmer -/
def ix_kw : Cond → Bool
  | .fieldLinkNest .. => true
  | .methodLinkNest .. => true
  | .castable .. => true
  | .declares .. => true
  | .arrayOver (.array _) => true
  | w => goodWord w
theorem ix_aoa {t : FieldType} {u U : State} {a a' : Array Value} (hvm : u.vm.Alike U.vm) (h : (Cond.arrayOver (.array t)).before a u = true) : (Cond.arrayOver (.array t)).before a' U = true := by
  obtain ⟨comp, c, k, h1, h2, h3, h4, h5⟩ := arrayOverA_spec h
  obtain ⟨k', hk', he⟩ := hvm.2.2 _ _ h3
  have hi : (U.vm.classes.findIdx? fun (x : Class) => match x.kind with | .array component _ => component == comp | _ => false) = some c := by
    have e1 := va_idx_bare U.vm comp
    rw [hvm.bare_eq] at e1
    exact (e1.symm.trans (va_idx_bare u.vm comp)).trans h2
  have hkind : k'.kind = .array comp (.array t) := by rw [he]; exact h4
  have f1 : U.vm.findClass (FieldType.array t).toString = some comp := by rw [hvm.findClass]; exact h1
  have f2 : U.vm.findClass ("[" ++ (FieldType.array t).toString) = some c := by rw [hvm.findClass]; exact h5
  unfold Cond.before Cond.holds
  simp only [Cond.value]
  rw [f1, Option.bind_some]
  refine (congrArg (fun o : Option Nat => (o.bind (fun c => (U.vm.classes[c]?).map fun (k : Class) => match k.kind with | .array _ ty => decide (ty = FieldType.array t) && decide (U.vm.findClass ("[" ++ (FieldType.array t).toString) = some c) | _ => false) == some true)) hi).trans ?_
  simp [hk', hkind, f2]
theorem ix_kw_use {w : Cond} {s U : State} {a a' : Array Value} (hk : ix_kw w = true) (hW : s.WarmedH U.vm) (h : w.before a s = true) : w.before a' U = true := by
  unfold ix_kw at hk
  split at hk
  · exact va_Nw.use rfl (va_Nw.warmF hW (va_Nw.of rfl h))
  · exact va_Nw.use rfl (va_Nw.warmM hW (va_Nw.of rfl h))
  · exact va_Nw.use rfl (va_Nw.warmC hW (va_Nw.of rfl h))
  · exact va_Nw.use rfl (va_Nw.warmD hW (va_Nw.of rfl h))
  · exact ix_aoa hW.alike h
  · exact word_at hW (good_of_word hk) h
def ix_nm (r : vw_C) : Bool := (List.range r.2.2).all (fun a => (List.range r.2.2).all (fun b => a == b || (r.2.1 a).2.1 != (r.2.1 b).2.1))
def ix_tp (r : vw_C) : Bool := (List.range r.2.2).all (fun k => (parseFieldDescriptor (r.2.1 k).2.2.1).isSome)
def ix_vF (P : ix_P) (e : Nat × Nat × ix_F) : Bool := match (ix_ON P)[e.1]?, (ix_CL P)[e.2.2.1]? with
  | some own, some r => decide (e.2.2.2.1 < r.2.2) && ((r.2.1 e.2.2.2.1).2.2.2 == e.2.2.2.2.2.1) && decide (parseFieldDescriptor (r.2.1 e.2.2.2.1).2.2.1 = some e.2.2.2.2.1) && (!e.2.2.2.2.2.1 || e.2.2.2.2.2.2.isSome || decide ((r.2.1 e.2.2.2.1).1 = own))
  | _, _ => false
def ix_vN (P : ix_P) (e : Nat × Nat × Nat × List FieldType) : Bool := match (ix_ON P)[e.1]?, (ix_CL P)[e.2.2.1]? with
  | some _, some r => decide (e.2.2.2.length = r.2.2) && (List.range r.2.2).all (fun k => decide (parseFieldDescriptor (r.2.1 k).2.2.1 = e.2.2.2[k]?))
  | _, _ => false
def ix_vC (P : ix_P) (e : Nat × Nat × ix_K) : Bool := match (ix_ON P)[e.1]?, (ix_MT P)[e.2.2.2.1]? with
  | some _, some me => decide (e.2.2.1 < 7 ∨ e.2.2.1 = 8 ∨ e.2.2.1 = 9 ∨ e.2.2.1 = 10) && decide (me.1.cls ≠ "java/lang/invoke/MethodHandle") && decide (me.1.cls ≠ "java/lang/invoke/VarHandle") &&
    decide ((parseMethodDescriptor me.1.desc).map (fun d => d.parameters.length) = some (if e.2.2.1 % 3 = 1 then me.2.2.2.2.2.1 else me.2.2.2.2.2.1 - 1)) && (decide (e.2.2.1 % 3 = 1) || decide (me.2.2.2.2.2.1 ≠ 0)) && (decide (e.2.2.1 ≠ 2 ∧ e.2.2.1 ≠ 5) || (me.1.name == "<init>" && decide (me.2.2.2.2.1 = none))) && decide (e.2.2.1 = 8 → me.1.name ≠ "<init>") &&
    (decide (e.2.2.1 ≠ 0 ∧ e.2.2.1 ≠ 3) || decide (me.1.cls = e.2.2.2.2.1)) && (decide (e.2.2.1 = 10) == decide (me.2.2.2.2.2.2.2.2 ≠ [])) && decide (e.2.2.2.1 ≠ 0) && (decide (e.2.2.1 ≠ 9) || (decide (e.2.2.2.2.2 ≠ "java/lang/invoke/MethodHandle") && decide (e.2.2.2.2.2 ≠ "java/lang/invoke/VarHandle") && (ix_MT P).tail.any (fun x => decide (x.1 = ⟨e.2.2.2.2.2, me.1.name, me.1.desc⟩) && decide (x.2.2.2.2.2.2.2.2 = []))))
  | _, _ => false
def ix_vD (bs : ByteArray) : List (Nat × Instr × Nat) → Bool := fun l => l.all (fun x => match decode bs x.1 with
  | .ok y => decide (y = (x.2.1, x.2.2))
  | .error _ => false)
def ix_vM (P : ix_P) (me : ix_M) : Bool := match (ix_ON P)[me.2.1]? with
  | some own => decide (me.1.cls = own) && decide (me.2.2.2.1 ≤ 40) && plainName me.1.cls && (!me.2.2.2.2.2.2.1 || me.1.name == "<init>") && ix_vD me.2.2.1 me.2.2.2.2.2.2.2.1
  | none => false
/-- what is asked of the tables alone -/
def ix_V (P : ix_P) : Bool := (ix_WL P).all ix_kw && (ix_CL P).all ix_nm && (ix_CL P).all ix_tp && (ix_FT P).all (ix_vF P) && (ix_NT P).all (ix_vN P) && (ix_CT P).all (ix_vC P) && (ix_MT P).all (ix_vM P) &&
  decide (ix_TY P = [.int, .long, .byte, .boolean, .byte, .array .int])
def ix_vX (P : ix_P) (e : Nat × Nat × ix_Xc) : Bool := match (ix_MT P)[e.1]?, (ix_CL P)[e.2.2.1]? with
  | some me, some row => decide (row.1 = e.2.2.2.2.2.2.1) && decide (row.2.2 = 0) && Bundle.fit e.2.2.2.2.2.2.1 && e.2.2.2.2.2.2.2.2.all Bundle.fit && decide (e.2.2.2.2.2.2.2.2.length ≤ 5) && decide (me.2.2.2.2.2.2.2.2 = []) &&
    decide (ix_dc me.2.2.2.2.2.2.2.1 e.2.1 = some (.new e.2.2.2.1, 3)) && decide (ix_dc me.2.2.2.2.2.2.2.1 (e.2.1 + 3) = some (.dup, 1)) && decide (ix_dc me.2.2.2.2.2.2.2.1 (e.2.1 + 4) = some (.ldc e.2.2.2.2.1, 2)) && decide (ix_dc me.2.2.2.2.2.2.2.1 (e.2.1 + 6) = some (.invokespecial e.2.2.2.2.2.1, 3)) && decide (ix_dc me.2.2.2.2.2.2.2.1 (e.2.1 + 9) = some (.athrow, 1)) &&
    (match ix_fd me.2.1 e.2.2.2.2.1 (ix_KT P) with
      | some (.ref _, tx) => decide (tx = e.2.2.2.2.2.2.2.1)
      | _ => false) && (ix_wX P e).all vx_ot
  | _, _ => false
def ix_vH (P : ix_P) (e : Nat × Nat × ix_Hc) : Bool := match (ix_MT P)[e.1]? with
  | some me => decide (e.2.2.2.1 ≠ 0) && (match me.2.2.2.2.2.2.2.2 with
      | [(a, b, q, cp)] => (match ix_dc me.2.2.2.2.2.2.2.1 e.2.1 with
        | some (.invokevirtual i, 3) => (match ix_fd me.2.1 i (ix_CT P) with
          | some k => decide (k.1 = 0)
          | none => false)
        | _ => false) && decide (a ≤ e.2.1) && decide (e.2.1 < b) && decide (q = e.2.2.1) && decide (cp = e.2.2.2.1)
      | _ => false)
  | none => false
/-- what is asked of the throws and handlers -/
def ix_V2 (P : ix_P) : Bool := (ix_XT P).all (ix_vX P) && (ix_HT P).all (ix_vH P)
def ix_ty (P : ix_P) (cA : Nat → ClassId) : List (ClassId × FieldType) := (ix_TY P).mapIdx (fun t ty => (cA t, ty))
theorem ix_ty_get {P : ix_P} {cA : Nat → ClassId} {t : Nat} {ty : FieldType} (h : (ix_TY P)[t]? = some ty) : (ix_ty P cA)[t]? = some (cA t, ty) := by
  simp [ix_ty, List.getElem?_mapIdx, h]
/-- an old cell, only read -/
def ix_rc (P : ix_P) (ad : Nat → Nat) (A : Nat → Prop) (s : State) (k : Nat) : ix_C → Prop
  | .inl (t, _, .inr (.inr (.inl _))) => (ix_TY P)[t]? = none
  | .inl (t, n, .inl f) => ∃ ty, (ix_TY P)[t]? = some ty ∧ va_T ty (ad k) n (fun j => .int (f j)) A s s.heap
  | .inr (c, fs) => ∃ r, (ix_CL P)[c]? = some r ∧ va_O r.1 (ad k) A s s.heap ∧ ∀ (j : Nat) (v : Value), fs[j]? = some v → va_OF (r.2.1 j).1 (r.2.1 j).2.1 (r.2.1 j).2.2.1 (ix_v ad v) (ad k) A s s.heap
  | _ => False
/-- what the start has: old cells, constants, statics -/
def ix_O (P : ix_P) (ad : Nat → Nat) (A : Nat → Prop) (ro : ix_H) (s : State) : Prop :=
  (∀ (k : Nat) (x : ix_C), ro[k]? = some x → ix_rc P ad A s k x) ∧ (∀ (c i k : Nat) (tx own : String), (c, i, Value.ref k, tx) ∈ ix_KT P → (ix_ON P)[c]? = some own → k < ix_NR P ∧ vk_R own i tx (ad k) s) ∧
  (∀ (c i : Nat) (g : ix_G), (c, i, g) ∈ ix_ST P → ix_wv (ix_NR P) g.2.2.2 ∧ va_Z g.1 g.2.1 g.2.2.1 (ix_v ad g.2.2.2) A s s.heap) ∧ (ro.length = ix_NR P ∧ vx_Zq Bundle.tN "UNASSIGNED_STACK" Bundle.steD A s s.heap ∧ vx_Zq Bundle.tN "SUPPRESSED_SENTINEL" Bundle.listD A s s.heap) ∧ (∀ x ∈ ro, ix_wc (ix_NR P) x)
/-- what holds all along a method's run -/
def ix_X (P : ix_P) (mi : ix_M) (own : String) (D : va_G) (ad0 : Nat → Nat) (cA : Nat → ClassId) (A : Nat → Prop) (ro : ix_H) (p : Program) (s : State) (m : MethodId) (args : Array Value) (meth : Method) (c : Code) : Prop :=
  p.tables.exec = Jvm.exec ∧ c.code = mi.2.2.1 ∧ c.maxLocals = mi.2.2.2.1 ∧ meth.sig.returnType = mi.2.2.2.2.1 ∧ meth.locks = false ∧ (ix_ON P)[mi.2.1]? = some own ∧ s.vm.findClass own = some m.cls ∧
  (mi.2.2.2.2.2.2.1 = true → meth.name = "<init>") ∧ va_K D (ix_CL P) (ix_ty P cA) s ∧ (∀ w ∈ ix_WL P, w.before args s = true) ∧ ix_V P = true ∧ (∀ q, s.heap.size ≤ q → A q) ∧ ix_O P ad0 A ro s
/-- the heaps -/
def ix_I (P : ix_P) (D : va_G) (ad0 : Nat → Nat) (cA : Nat → ClassId) (A : Nat → Prop) (ro : ix_H) (s : State) (n0 s0 : Nat) (ad : Nat → Nat) (h : ix_H) (H : Heap) (locs : List Loc) : Prop :=
  va_P D (ix_CL P) (ix_w ad cA (ix_NR P) h) H ∧ va_D A (ix_w ad cA (ix_NR P) h) ∧ va_S A s.heap H locs ∧ (∀ k, k < n0 → ad k = ad0 k) ∧ h.take (ix_NR P) = ro ∧ ix_NR P ≤ n0 ∧ n0 ≤ h.length ∧ s0 ≤ ix_sz h
/-- the JVM, wherever it stands as the small machine does, comes to Q -/
def ix_W (P : ix_P) (D : va_G) (ad0 : Nat → Nat) (cA : Nat → ClassId) (A : Nat → Prop) (ro : ix_H) (p : Program) (l : Launch) (e : Env) (R : Room) (s : State) (m : MethodId) (args : Array Value) (below : List Frame) (meth : Method) (c : Code) (Q : State → Prop) (n0 s0 nL pc : Nat) (lv : ix_L) (st : List Value) (h : ix_H) : Prop :=
  ∀ (ad : Nat → Nat) (H : Heap) (locs : List Loc) (ls : Array Slot), ix_I P D ad0 cA A ro s n0 s0 ad h H locs → ix_LR ad nL lv ls → ix_wf h lv st → W p l e R s m args below meth c H locs (h.length - n0) (ix_sz h - s0) Q (F0 m pc ls (st.map (ix_v ad)))
-- what stays well
theorem ix_wf.push {h : ix_H} {lv : ix_L} {st : List Value} {v : Value} (w : ix_wf h lv st) (hv : ix_wv h.length v) : ix_wf h lv (v :: st) := ⟨w.1, fun x hx => (List.mem_cons.mp hx).elim (fun e => e ▸ hv) (w.2.1 x), w.2.2⟩
theorem ix_wf.pop {h : ix_H} {lv : ix_L} {st : List Value} {v : Value} (w : ix_wf h lv (v :: st)) : ix_wf h lv st := ⟨w.1, fun x hx => w.2.1 x (List.mem_cons_of_mem _ hx), w.2.2⟩
theorem ix_wf.top {h : ix_H} {lv : ix_L} {st : List Value} {v : Value} (w : ix_wf h lv (v :: st)) : ix_wv h.length v := w.2.1 v List.mem_cons_self
theorem ix_st_mem {i : Nat} {v x : Value} {lv : ix_L} (h : some x ∈ ix_st i v lv) : x = v ∨ some x ∈ lv := by
  unfold ix_st at h
  rcases List.mem_or_eq_of_mem_set h with h1 | h1
  · right
    split at h1
    · exact h1
    · split at h1
      · split at h1
        · rcases List.mem_or_eq_of_mem_set h1 with h2 | h2
          · exact h2
          · cases h2
        · exact h1
      · exact h1
  · left
    cases h1
    rfl
theorem ix_wf.st {h : ix_H} {lv : ix_L} {st : List Value} {v : Value} {i : Nat} (w : ix_wf h lv (v :: st)) : ix_wf h (ix_st i v lv) st :=
  ⟨fun x hx => (ix_st_mem hx).elim (fun e => e ▸ w.top) (w.1 x), w.pop.2.1, w.2.2⟩
theorem ix_wf.st2 {h : ix_H} {lv : ix_L} {st : List Value} {v : Value} {i : Nat} (w : ix_wf h lv (v :: st)) : ix_wf h (ix_st2 i v lv) st :=
  ⟨fun x hx => (List.mem_or_eq_of_mem_set (show some x ∈ (ix_st i v lv).set (i + 1) none from hx)).elim (fun h1 => (ix_st_mem h1).elim (fun e => e ▸ w.top) (w.1 x)) (fun h1 => by cases h1), w.pop.2.1, w.2.2⟩
theorem ix_wf.ld {h : ix_H} {lv : ix_L} {st : List Value} {v : Value} {i : Nat} (w : ix_wf h lv st) (e : lv[i]? = some (some v)) : ix_wf h lv (v :: st) := w.push (w.1 v (List.mem_of_getElem? e))
-- inversions
theorem ix_go_eq {pc pc' : Nat} {lv lv' : ix_L} {st st' : List Value} {h h' : ix_H} (e : ix_go pc lv st h = some (.inl (pc', lv', st', h'))) : pc' = pc ∧ lv' = lv ∧ st' = st ∧ h' = h := by
  unfold ix_go at e
  cases e
  exact ⟨rfl, rfl, rfl, rfl⟩
theorem ix_i_eq {α : Type} {st : List Value} {f : Int32 → List Value → Option α} {y : α} (e : ix_i st f = some y) : ∃ x r, st = .int x :: r ∧ f x r = some y := by
  unfold ix_i at e
  split at e
  · exact ⟨_, _, rfl, e⟩
  · cases e
theorem ix_ii_eq {α : Type} {st : List Value} {f : Int32 → Int32 → List Value → Option α} {y : α} (e : ix_ii st f = some y) : ∃ a b r, st = .int b :: .int a :: r ∧ f a b r = some y := by
  unfold ix_ii at e
  split at e
  · exact ⟨_, _, _, rfl, e⟩
  · cases e
theorem ix_l_eq {α : Type} {st : List Value} {f : Int64 → List Value → Option α} {y : α} (e : ix_l st f = some y) : ∃ x r, st = .long x :: r ∧ f x r = some y := by
  unfold ix_l at e
  split at e
  · exact ⟨_, _, rfl, e⟩
  · cases e
theorem ix_ll_eq {α : Type} {st : List Value} {f : Int64 → Int64 → List Value → Option α} {y : α} (e : ix_ll st f = some y) : ∃ a b r, st = .long b :: .long a :: r ∧ f a b r = some y := by
  unfold ix_ll at e
  split at e
  · exact ⟨_, _, _, rfl, e⟩
  · cases e
theorem ix_d_eq {α : Type} {st : List Value} {f : UInt64 → List Value → Option α} {y : α} (e : ix_d st f = some y) : ∃ x r, st = .double x :: r ∧ f x r = some y := by
  unfold ix_d at e
  split at e
  · exact ⟨_, _, rfl, e⟩
  · cases e
theorem ix_dd_eq {α : Type} {st : List Value} {f : UInt64 → UInt64 → List Value → Option α} {y : α} (e : ix_dd st f = some y) : ∃ a b r, st = .double b :: .double a :: r ∧ f a b r = some y := by
  unfold ix_dd at e
  split at e
  · exact ⟨_, _, _, rfl, e⟩
  · cases e
theorem ix_r_eq {α : Type} {st : List Value} {f : Nat → List Value → Option α} {y : α} (e : ix_r st f = some y) : ∃ x r, st = .ref x :: r ∧ f x r = some y := by
  unfold ix_r at e
  split at e
  · exact ⟨_, _, rfl, e⟩
  · cases e
theorem ix_a_eq {α : Type} {st : List Value} {f : Value → List Value → Option α} {y : α} (e : ix_a st f = some y) : ∃ v r, st = v :: r ∧ (v = .null ∨ ∃ x, v = .ref x) ∧ f v r = some y := by
  unfold ix_a at e
  split at e
  · exact ⟨_, _, rfl, Or.inr ⟨_, rfl⟩, e⟩
  · exact ⟨_, _, rfl, Or.inl rfl, e⟩
  · cases e
theorem ix_ir_eq {α : Type} {st : List Value} {f : Int32 → Nat → List Value → Option α} {y : α} (e : ix_ir st f = some y) : ∃ i x r, st = .int i :: .ref x :: r ∧ f i x r = some y := by
  unfold ix_ir at e
  split at e
  · exact ⟨_, _, _, rfl, e⟩
  · cases e
theorem ix_iir_eq {α : Type} {st : List Value} {f : Int32 → Int32 → Nat → List Value → Option α} {y : α} (e : ix_iir st f = some y) : ∃ v i x r, st = .int v :: .int i :: .ref x :: r ∧ f v i x r = some y := by
  unfold ix_iir at e
  split at e
  · exact ⟨_, _, _, _, rfl, e⟩
  · cases e
theorem ix_rir_eq {α : Type} {st : List Value} {f : Nat → Int32 → Nat → List Value → Option α} {y : α} (e : ix_rir st f = some y) : ∃ v i x r, st = .ref v :: .int i :: .ref x :: r ∧ f v i x r = some y := by
  unfold ix_rir at e
  split at e
  · exact ⟨_, _, _, _, rfl, e⟩
  · cases e
theorem ix_lir_eq {α : Type} {st : List Value} {f : Int64 → Int32 → Nat → List Value → Option α} {y : α} (e : ix_lir st f = some y) : ∃ v i x r, st = .long v :: .int i :: .ref x :: r ∧ f v i x r = some y := by
  unfold ix_lir at e
  split at e
  · exact ⟨_, _, _, _, rfl, e⟩
  · cases e
theorem ix_vr_eq {α : Type} {st : List Value} {f : Value → Nat → List Value → Option α} {y : α} (e : ix_vr st f = some y) : ∃ v x r, st = v :: .ref x :: r ∧ f v x r = some y := by
  unfold ix_vr at e
  split at e
  · exact ⟨_, _, _, rfl, e⟩
  · cases e
theorem ix_ob_eq {α : Type} {h : ix_H} {o : Nat} {f : Nat → List Value → Option α} {y : α} (e : ix_ob h o f = some y) : ∃ c fs, h[o]? = some (.inr (c, fs)) ∧ f c fs = some y := by
  unfold ix_ob at e
  split at e
  · next c fs q => exact ⟨c, fs, q, e⟩
  · cases e
theorem ix_ai_eq {α : Type} {h : ix_H} {o : Nat} {f : Nat → Nat → (Nat → Int32) → Option α} {y : α} (e : ix_ai h o f = some y) : ∃ t n a, h[o]? = some (.inl (t, n, .inl a)) ∧ f t n a = some y := by
  unfold ix_ai at e
  split at e
  · next t n a q => exact ⟨t, n, a, q, e⟩
  · cases e
theorem ix_all_eq {α : Type} {h : ix_H} {o : Nat} {f : Nat → Nat → (Nat → Int64) → Option α} {y : α} (e : ix_all h o f = some y) : ∃ t n a, h[o]? = some (.inl (t, n, .inr (.inl a))) ∧ f t n a = some y := by
  unfold ix_all at e
  split at e
  · next t n a q => exact ⟨t, n, a, q, e⟩
  · cases e
theorem ix_aq_eq {α : Type} {h : ix_H} {o : Nat} {f : Nat → Nat → (Nat → Option Nat) → Option α} {y : α} (e : ix_aq h o f = some y) : ∃ t n a, h[o]? = some (.inl (t, n, .inr (.inr (.inr (.inr a))))) ∧ f t n a = some y := by
  unfold ix_aq at e
  split at e
  · next t n a q => exact ⟨t, n, a, q, e⟩
  · cases e
theorem ix_ar_eq {α : Type} {h : ix_H} {o : Nat} {f : Nat → Nat → Option α} {y : α} (e : ix_ar h o f = some y) : ∃ t n a, h[o]? = some (.inl (t, n, a)) ∧ f t n = some y := by
  unfold ix_ar at e
  split at e
  · next t n a q => exact ⟨t, n, a, q, e⟩
  · cases e
theorem ix_ld_eq {i len pc pc' : Nat} {lv lv' : ix_L} {st st' : List Value} {h h' : ix_H} {g : Value → Bool} (e : ix_ld i len pc lv st h g = some (.inl (pc', lv', st', h'))) : ∃ v, lv[i]? = some (some v) ∧ g v = true ∧ pc' = pc + len ∧ lv' = lv ∧ st' = v :: st ∧ h' = h := by
  unfold ix_ld at e
  split at e
  · next v q =>
    split at e
    · next hg => exact ⟨v, q, hg, ix_go_eq e⟩
    · cases e
  · cases e
theorem ix_sv_eq {i len pc pc' : Nat} {lv lv' : ix_L} {st st' : List Value} {h h' : ix_H} {g : Value → Bool} (e : ix_sv i len pc lv st h g = some (.inl (pc', lv', st', h'))) : ∃ v r, st = v :: r ∧ g v = true ∧ i < lv.length ∧ pc' = pc + len ∧ lv' = ix_st i v lv ∧ st' = r ∧ h' = h := by
  unfold ix_sv at e
  split at e
  · next v r =>
    split at e
    · next hg =>
      simp only [Bool.and_eq_true, decide_eq_true_eq] at hg
      exact ⟨v, r, rfl, hg.1, hg.2, ix_go_eq e⟩
    · cases e
  · cases e
theorem ix_sv2_eq {i len pc pc' : Nat} {lv lv' : ix_L} {st st' : List Value} {h h' : ix_H} {g : Value → Bool} (e : ix_sv2 i len pc lv st h g = some (.inl (pc', lv', st', h'))) : ∃ v r, st = v :: r ∧ g v = true ∧ i + 1 < lv.length ∧ pc' = pc + len ∧ lv' = ix_st2 i v lv ∧ st' = r ∧ h' = h := by
  unfold ix_sv2 at e
  split at e
  · next v r =>
    split at e
    · next hg =>
      simp only [Bool.and_eq_true, decide_eq_true_eq] at hg
      exact ⟨v, r, rfl, hg.1, hg.2, ix_go_eq e⟩
    · cases e
  · cases e
theorem ix_br_eq {b : Bool} {pc pc' : Nat} {off : Int} {lv lv' : ix_L} {st st' : List Value} {h h' : ix_H} (e : ix_br b pc off lv st h = some (.inl (pc', lv', st', h'))) : (pc : Int) + off = (ix_tg pc off : Nat) ∧ lv' = lv ∧ st' = st ∧ h' = h ∧ ((b = true ∧ pc' = ix_tg pc off) ∨ (b = false ∧ pc' = pc + 3)) := by
  unfold ix_br at e
  split at e
  · next ho =>
    have h1 : (pc : Int) + off = (ix_tg pc off : Nat) := by
      simp only [ix_ok, decide_eq_true_eq] at ho
      simp only [ix_tg]
      omega
    split at e
    · next hb =>
      obtain ⟨e1, e2, e3, e4⟩ := ix_go_eq e
      exact ⟨h1, e2, e3, e4, Or.inl ⟨hb, e1⟩⟩
    · next hb =>
      obtain ⟨e1, e2, e3, e4⟩ := ix_go_eq e
      exact ⟨h1, e2, e3, e4, Or.inr ⟨by simpa using hb, e1⟩⟩
  · cases e
theorem ix_ok_eq {pc : Nat} {off : Int} (h : ix_ok pc off = true) : (pc : Int) + off = (ix_tg pc off : Nat) := by
  simp only [ix_ok, decide_eq_true_eq] at h
  simp only [ix_tg]
  omega
theorem ix_gi_eq {v : Value} (h : ix_gi v = true) : ∃ x, v = .int x := by cases v <;> first | exact ⟨_, rfl⟩ | cases h
theorem ix_gl_eq {v : Value} (h : ix_gl v = true) : ∃ x, v = .long x := by cases v <;> first | exact ⟨_, rfl⟩ | cases h
theorem ix_gd_eq {v : Value} (h : ix_gd v = true) : ∃ x, v = .double x := by cases v <;> first | exact ⟨_, rfl⟩ | cases h
theorem ix_ga_eq {v : Value} (h : ix_ga v = true) : v = .null ∨ ∃ x, v = .ref x := by cases v <;> first | exact Or.inl rfl | exact Or.inr ⟨_, rfl⟩ | cases h
theorem ix_in_eq {i : Int32} {n : Nat} (h : ix_in i n = true) : vp_in i n := by
  simp only [ix_in, Bool.and_eq_true, decide_eq_true_eq] at h
  exact vp_in_iff.mpr h
theorem ix_k1_eq {ad : Nat → Nat} {v : Value} (h : ix_k1 v = true) : (ix_v ad v).category = 1 := by
  rw [ix_v_cat]
  simpa [ix_k1] using h
theorem ix_LR.st2 {ad : Nat → Nat} {nL i : Nat} {v : Value} {lv : ix_L} {ls ls' : Array Slot} (h : ix_LR ad nL lv ls) (hc : (∃ x, v = .long x) ∨ ∃ x, v = .double x) (h' : lv_has ls' nL ((i, ix_v ad v) :: (ix_al ad lv).filter (fun q => !(q.1 == i) && (!(q.1 == i + 1) && !(q.1 + 1 == i && q.2.category == 2))))) : ix_LR ad nL (ix_st2 i v lv) ls' := by
  obtain ⟨e1, e2, e3⟩ := h'
  have hlen : (ix_st2 i v lv).length = lv.length := by
    unfold ix_st2 ix_st
    split
    · simp
    · split
      · split <;> simp
      · simp
  refine ⟨hlen.trans h.1, e1, e2, fun j w hj => ?_⟩
  by_cases hj1 : j = i + 1
  · subst hj1
    unfold ix_st2 at hj
    have hlt := (List.getElem?_eq_some_iff.mp hj).1
    rw [List.length_set] at hlt
    rw [List.getElem?_set_self hlt] at hj
    cases hj
  · unfold ix_st2 at hj
    rw [List.getElem?_set_ne (Ne.symm hj1)] at hj
    by_cases hji : j = i
    · subst hji
      have hw : w = v := by
        unfold ix_st at hj
        have hlt := (List.getElem?_eq_some_iff.mp hj).1
        rw [List.length_set] at hlt
        rw [List.getElem?_set_self hlt] at hj
        cases hj
        rfl
      rw [hw]
      exact e3 (j, ix_v ad v) List.mem_cons_self
    · have h1 : lv[j]? = some (some w) ∧ ¬ (j + 1 = i ∧ w.category = 2) := by
        unfold ix_st at hj
        rw [List.getElem?_set_ne (Ne.symm hji)] at hj
        cases i with
        | zero => exact ⟨hj, by omega⟩
        | succ i =>
          dsimp only at hj
          split at hj
          · next w0 e0 =>
            split at hj
            · next hc =>
              by_cases hij : i = j
              · subst hij
                have hlt := (List.getElem?_eq_some_iff.mp hj).1
                rw [List.length_set] at hlt
                rw [List.getElem?_set_self hlt] at hj
                cases hj
              · rw [List.getElem?_set_ne hij] at hj
                exact ⟨hj, by omega⟩
            · next hc =>
              refine ⟨hj, fun hx => hc ?_⟩
              have : j = i := by omega
              subst this
              rw [e0] at hj
              cases hj
              exact hx.2
          · next hn =>
            refine ⟨hj, fun hx => ?_⟩
            have : j = i := by omega
            subst this
            exact hn w hj
      refine e3 (j, ix_v ad w) (List.mem_cons_of_mem _ (List.mem_filter.mpr ⟨ix_al_mem.mpr ⟨w, h1.1, rfl⟩, ?_⟩))
      have h2 := h1.2
      simp only [ix_v_cat, Bool.and_eq_true, Bool.not_eq_true', beq_eq_false_iff_ne, ne_eq, Bool.and_eq_false_iff]
      refine ⟨hji, hj1, ?_⟩
      by_cases hc : j + 1 = i
      · right
        intro hcat
        exact h2 ⟨hc, hcat⟩
      · left
        exact hc
