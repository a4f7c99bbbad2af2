/-! EQUATIONS for each kind of instruction. -/
/-- reads and writes -/
def rF (P : ix_P) (h : ix_H) (o : Nat) (e : ix_F) : Option Value := ix_ob h o (fun c fs => if (ix_NR P ≤ o ∨ e.2.2.2.2 = none) ∧ c = e.1 then fs[e.2.1]? else none)
def wF (P : ix_P) (h : ix_H) (o : Nat) (e : ix_F) (ini : Bool) (v : Value) : Option ix_H := ix_ob h o (fun c fs => if ix_NR P ≤ o ∧ c = e.1 ∧ e.2.1 < fs.length ∧ ix_ft e.2.2.1 v = true ∧ (e.2.2.2.1 = false ∨ (ini = true ∧ e.2.2.2.2 = none)) then some (h.set o (.inr (c, fs.set e.2.1 v))) else none)
def rA (h : ix_H) (o : Nat) (i : Int32) : Option Value := ix_ai h o (fun t n a => if t = 0 ∧ ix_in i n = true then some (.int (a i.toNatClampNeg)) else none)
def rB (h : ix_H) (o : Nat) (i : Int32) : Option Value := ix_ai h o (fun t n a => if (t = 2 ∨ t = 3) ∧ ix_in i n = true then some (.int (a i.toNatClampNeg)) else none)
def rJ (h : ix_H) (o : Nat) (i : Int32) : Option Value := ix_all h o (fun t n a => if t = 1 ∧ ix_in i n = true then some (.long (a i.toNatClampNeg)) else none)
def rQ (P : ix_P) (h : ix_H) (o : Nat) (i : Int32) : Option Value := ix_aq h o (fun t n a => if ix_NR P ≤ o ∧ t = 5 ∧ ix_in i n = true then some (ix_rf (a i.toNatClampNeg)) else none)
def rN (P : ix_P) (h : ix_H) (o : Nat) : Option Value := ix_ar h o (fun t n => match (ix_TY P)[t]? with
  | some _ => some (.int (Int32.ofNat n))
  | none => none)
def wA (P : ix_P) (h : ix_H) (o : Nat) (i v : Int32) : Option ix_H := ix_ai h o (fun t n a => if ix_NR P ≤ o ∧ t = 0 ∧ ix_in i n = true then some (h.set o (.inl (t, n, .inl (upd a i.toNatClampNeg v)))) else none)
def wB (P : ix_P) (h : ix_H) (o : Nat) (i v : Int32) : Option ix_H := ix_ai h o (fun t n a => if ix_NR P ≤ o ∧ ((t = 2 ∧ ix_ft .byte (.int v) = true) ∨ (t = 3 ∧ ix_ft .boolean (.int v) = true)) ∧ ix_in i n = true then some (h.set o (.inl (t, n, .inl (upd a i.toNatClampNeg v)))) else none)
def wJ (P : ix_P) (h : ix_H) (o : Nat) (i : Int32) (v : Int64) : Option ix_H := ix_all h o (fun t n a => if ix_NR P ≤ o ∧ t = 1 ∧ ix_in i n = true then some (h.set o (.inl (t, n, .inr (.inl (vp_updL a i.toNatClampNeg v))))) else none)
def wQ (P : ix_P) (h : ix_H) (o : Nat) (i : Int32) (v : Nat) : Option ix_H := ix_aq h o (fun t n a => ix_ai h v (fun t' _ _ => if ix_NR P ≤ o ∧ ix_NR P ≤ v ∧ t = 5 ∧ t' = 0 ∧ ix_in i n = true then some (h.set o (.inl (t, n, .inr (.inr (.inr (.inr (va_up a i.toNatClampNeg (some v)))))))) else none))
def wY (P : ix_P) (h : ix_H) (src : Nat) (sp : Int32) (dst : Nat) (dp n : Int32) : Option ix_H := ix_ai h src (fun t n0 f => ix_ai h dst (fun t' n1 g => if ix_NR P ≤ dst ∧ src ≠ dst ∧ (t = 0 ∧ ix_NR P ≤ src ∨ t = 2) ∧ t' = t ∧ ¬ sp < 0 ∧ ¬ dp < 0 ∧ ¬ n < 0 ∧ sp.toNatClampNeg + n.toNatClampNeg ≤ n0 ∧ dp.toNatClampNeg + n.toNatClampNeg ≤ n1 then some (h.set dst (.inl (t, n1, .inl (va_cpy f g sp.toNatClampNeg dp.toNatClampNeg n.toNatClampNeg)))) else none))
def rY (P : ix_P) (h : ix_H) (o : Nat) : Option ix_H := ix_ai h o (fun t n a => if ix_NR P ≤ o ∧ t = 2 then some (h ++ [.inl (2, n, .inl a)]) else none)
def rT (P : ix_P) (h : ix_H) (o : Nat) : Bool := match h[o]? with
  | some (.inl (t, _)) => decide (ix_NR P ≤ o) && decide (t = 2)
  | _ => false
noncomputable def xG (P : ix_P) (d mid pc : Nat) (lv : ix_L) (st : List Value) (h : ix_H) : Option Value → Option ix_Rs
  | some v => xe P d mid pc lv (v :: st) h
  | none => none
noncomputable def xH (P : ix_P) (d mid pc : Nat) (lv : ix_L) (st : List Value) : Option ix_H → Option ix_Rs
  | some h' => xe P d mid pc lv st h'
  | none => none
section XI
variable {P : ix_P} {d mid pc len : Nat} {mi : ix_M} {lv : ix_L} {st : List Value} {h : ix_H}
theorem xG_some {v : Value} : xG P d mid pc lv st h (some v) = xe P d mid pc lv (v :: st) h := rfl
theorem xH_some {h' : ix_H} : xH P d mid pc lv st (some h') = xe P d mid pc lv st h' := rfl
theorem xC_some {v : Option Value} {h' : ix_H} : xC P d mid pc lv st (some (.inl v, h')) = xe P d mid pc lv (v.toList ++ st) h' := rfl
theorem xC_v {v : Value} {h' : ix_H} : xC P d mid pc lv st (some (.inl (some v), h')) = xe P d mid pc lv (v :: st) h' := rfl
theorem xC_n {h' : ix_H} : xC P d mid pc lv st (some (.inl none, h')) = xe P d mid pc lv st h' := rfl

theorem x_iconst {n : Int} {v : Int32} (h1 : (ix_MT P)[mid]? = some mi) (h2 : ix_dc mi.2.2.2.2.2.2.2.1 pc = some (.iconst n, 1)) (hv : Int32.ofInt n = v) : xe P d mid pc lv st h = xe P d mid (pc + 1) lv (.int v :: st) h := by
  rw [xe_step h1 h2 rfl rfl]
  subst hv
  simp [ix_s1, ix_go, xK]
theorem x_bipush {n : Int} {v : Int32} (h1 : (ix_MT P)[mid]? = some mi) (h2 : ix_dc mi.2.2.2.2.2.2.2.1 pc = some (.bipush n, 2)) (hv : (Int8.ofInt n).toInt32 = v) : xe P d mid pc lv st h = xe P d mid (pc + 2) lv (.int v :: st) h := by
  rw [xe_step h1 h2 rfl rfl]
  subst hv
  simp [ix_s1, ix_go, xK]
theorem x_sipush {n : Int} {v : Int32} (h1 : (ix_MT P)[mid]? = some mi) (h2 : ix_dc mi.2.2.2.2.2.2.2.1 pc = some (.sipush n, 3)) (hv : (Int16.ofInt n).toInt32 = v) : xe P d mid pc lv st h = xe P d mid (pc + 3) lv (.int v :: st) h := by
  rw [xe_step h1 h2 rfl rfl]
  subst hv
  simp [ix_s1, ix_go, xK]
theorem x_lconst {n : Fin 2} {v : Int64} (h1 : (ix_MT P)[mid]? = some mi) (h2 : ix_dc mi.2.2.2.2.2.2.2.1 pc = some (.lconst n, 1)) (hv : Int64.ofNat n = v) : xe P d mid pc lv st h = xe P d mid (pc + 1) lv (.long v :: st) h := by
  rw [xe_step h1 h2 rfl rfl]
  subst hv
  simp [ix_s1, ix_go, xK]
theorem x_aconst_null  (h1 : (ix_MT P)[mid]? = some mi) (h2 : ix_dc mi.2.2.2.2.2.2.2.1 pc = some (.aconst_null, 1))  : xe P d mid pc lv st h = xe P d mid (pc + 1) lv (.null :: st) h := by
  rw [xe_step h1 h2 rfl rfl]
  simp [ix_s1, ix_go, xK]
theorem x_dconst  (h1 : (ix_MT P)[mid]? = some mi) (h2 : ix_dc mi.2.2.2.2.2.2.2.1 pc = some (.dconst 0, 1))  : xe P d mid pc lv st h = xe P d mid (pc + 1) lv (.double 0 :: st) h := by
  rw [xe_step h1 h2 rfl rfl]
  simp [ix_s1, ix_go, xK]
theorem x_ldc {i : Nat} {x : Int32} {tx : String} (h1 : (ix_MT P)[mid]? = some mi) (h2 : ix_dc mi.2.2.2.2.2.2.2.1 pc = some (.ldc i, 2)) (h3 : ix_fd mi.2.1 i (ix_KT P) = some (.int x, tx)) : xe P d mid pc lv st h = xe P d mid (pc + 2) lv (.int x :: st) h := by
  rw [xe_step h1 h2 rfl rfl]
  simp [ix_s1, ix_go, xK, h3]
theorem x_ldc_w {i : Nat} {x : Int32} {tx : String} (h1 : (ix_MT P)[mid]? = some mi) (h2 : ix_dc mi.2.2.2.2.2.2.2.1 pc = some (.ldc_w i, 3)) (h3 : ix_fd mi.2.1 i (ix_KT P) = some (.int x, tx)) : xe P d mid pc lv st h = xe P d mid (pc + 3) lv (.int x :: st) h := by
  rw [xe_step h1 h2 rfl rfl]
  simp [ix_s1, ix_go, xK, h3]
theorem x_ldcS {i k : Nat} {tx : String} (h1 : (ix_MT P)[mid]? = some mi) (h2 : ix_dc mi.2.2.2.2.2.2.2.1 pc = some (.ldc i, 2)) (h3 : ix_fd mi.2.1 i (ix_KT P) = some (.ref k, tx)) (h4 : k < ix_NR P) : xe P d mid pc lv st h = xe P d mid (pc + 2) lv (.ref k :: st) h := by
  rw [xe_step h1 h2 rfl rfl]
  simp [ix_s1, ix_go, xK, h3, h4]
theorem x_ldc2 {i : Nat} {x : Int64} {tx : String} (h1 : (ix_MT P)[mid]? = some mi) (h2 : ix_dc mi.2.2.2.2.2.2.2.1 pc = some (.ldc2_w i, 3)) (h3 : ix_fd mi.2.1 i (ix_KT P) = some (.long x, tx)) : xe P d mid pc lv st h = xe P d mid (pc + 3) lv (.long x :: st) h := by
  rw [xe_step h1 h2 rfl rfl]
  simp [ix_s1, ix_go, xK, h3]
theorem x_getsI {i : Nat} {a b c : String} {x : Int32} (h1 : (ix_MT P)[mid]? = some mi) (h2 : ix_dc mi.2.2.2.2.2.2.2.1 pc = some (.getstatic i, 3)) (h3 : ix_fd mi.2.1 i (ix_ST P) = some (a, b, c, .int x)) : xe P d mid pc lv st h = xe P d mid (pc + 3) lv (.int x :: st) h := by
  rw [xe_step h1 h2 rfl rfl]
  simp [ix_s1, ix_go, xK, h3]
theorem x_getsR {i k : Nat} {a b c : String} (h1 : (ix_MT P)[mid]? = some mi) (h2 : ix_dc mi.2.2.2.2.2.2.2.1 pc = some (.getstatic i, 3)) (h3 : ix_fd mi.2.1 i (ix_ST P) = some (a, b, c, .ref k)) (h4 : k < ix_NR P) : xe P d mid pc lv st h = xe P d mid (pc + 3) lv (.ref k :: st) h := by
  rw [xe_step h1 h2 rfl rfl]
  simp [ix_s1, ix_go, xK, h3, h4]
theorem x_getsV {i k : Nat} {a b c : String} {v : Value} (h1 : (ix_MT P)[mid]? = some mi) (h2 : ix_dc mi.2.2.2.2.2.2.2.1 pc = some (.getstatic i, 3)) (h3 : ix_fd mi.2.1 i (ix_ST P) = some (a, b, c, v)) (h4 : v = .null ∨ v = .ref k ∧ k < ix_NR P) : xe P d mid pc lv st h = xe P d mid (pc + 3) lv (v :: st) h := by
  rw [xe_step h1 h2 rfl rfl]
  rcases h4 with rfl | ⟨rfl, h4⟩ <;> simp [ix_s1, ix_go, xK, h3, *]
theorem x_iload {i : Nat} {x : Int32} (h1 : (ix_MT P)[mid]? = some mi) (h2 : ix_dc mi.2.2.2.2.2.2.2.1 pc = some (.iload i, 2)) (hl : lv[i]? = some (some (.int x))) : xe P d mid pc lv st h = xe P d mid (pc + 2) lv (.int x :: st) h := by
  rw [xe_step h1 h2 rfl rfl]
  simp [ix_s1, ix_ld, hl, ix_gi, ix_go, xK]
theorem x_iload_n {i : Fin 4} {x : Int32} (h1 : (ix_MT P)[mid]? = some mi) (h2 : ix_dc mi.2.2.2.2.2.2.2.1 pc = some (.iload_n i, 1)) (hl : lv[i.val]? = some (some (.int x))) : xe P d mid pc lv st h = xe P d mid (pc + 1) lv (.int x :: st) h := by
  rw [xe_step h1 h2 rfl rfl]
  simp [ix_s1, ix_ld, hl, ix_gi, ix_go, xK]
theorem x_lload {i : Nat} {x : Int64} (h1 : (ix_MT P)[mid]? = some mi) (h2 : ix_dc mi.2.2.2.2.2.2.2.1 pc = some (.lload i, 2)) (hl : lv[i]? = some (some (.long x))) : xe P d mid pc lv st h = xe P d mid (pc + 2) lv (.long x :: st) h := by
  rw [xe_step h1 h2 rfl rfl]
  simp [ix_s1, ix_ld, hl, ix_gl, ix_go, xK]
theorem x_lload_n {i : Fin 4} {x : Int64} (h1 : (ix_MT P)[mid]? = some mi) (h2 : ix_dc mi.2.2.2.2.2.2.2.1 pc = some (.lload_n i, 1)) (hl : lv[i.val]? = some (some (.long x))) : xe P d mid pc lv st h = xe P d mid (pc + 1) lv (.long x :: st) h := by
  rw [xe_step h1 h2 rfl rfl]
  simp [ix_s1, ix_ld, hl, ix_gl, ix_go, xK]
theorem x_dload {i : Nat} {x : UInt64} (h1 : (ix_MT P)[mid]? = some mi) (h2 : ix_dc mi.2.2.2.2.2.2.2.1 pc = some (.dload i, 2)) (hl : lv[i]? = some (some (.double x))) : xe P d mid pc lv st h = xe P d mid (pc + 2) lv (.double x :: st) h := by
  rw [xe_step h1 h2 rfl rfl]
  simp [ix_s1, ix_ld, hl, ix_gd, ix_go, xK]
theorem x_dload_n {i : Fin 4} {x : UInt64} (h1 : (ix_MT P)[mid]? = some mi) (h2 : ix_dc mi.2.2.2.2.2.2.2.1 pc = some (.dload_n i, 1)) (hl : lv[i.val]? = some (some (.double x))) : xe P d mid pc lv st h = xe P d mid (pc + 1) lv (.double x :: st) h := by
  rw [xe_step h1 h2 rfl rfl]
  simp [ix_s1, ix_ld, hl, ix_gd, ix_go, xK]
theorem x_aload {i : Nat} {x : Nat} (h1 : (ix_MT P)[mid]? = some mi) (h2 : ix_dc mi.2.2.2.2.2.2.2.1 pc = some (.aload i, 2)) (hl : lv[i]? = some (some (.ref x))) : xe P d mid pc lv st h = xe P d mid (pc + 2) lv (.ref x :: st) h := by
  rw [xe_step h1 h2 rfl rfl]
  simp [ix_s1, ix_ld, hl, ix_ga, ix_go, xK]
theorem x_aload_n {i : Fin 4} {x : Nat} (h1 : (ix_MT P)[mid]? = some mi) (h2 : ix_dc mi.2.2.2.2.2.2.2.1 pc = some (.aload_n i, 1)) (hl : lv[i.val]? = some (some (.ref x))) : xe P d mid pc lv st h = xe P d mid (pc + 1) lv (.ref x :: st) h := by
  rw [xe_step h1 h2 rfl rfl]
  simp [ix_s1, ix_ld, hl, ix_ga, ix_go, xK]
theorem x_aload_nN {i : Fin 4} (h1 : (ix_MT P)[mid]? = some mi) (h2 : ix_dc mi.2.2.2.2.2.2.2.1 pc = some (.aload_n i, 1)) (hl : lv[i.val]? = some (some .null)) : xe P d mid pc lv st h = xe P d mid (pc + 1) lv (.null :: st) h := by
  rw [xe_step h1 h2 rfl rfl]
  simp [ix_s1, ix_ld, hl, ix_ga, ix_go, xK]
theorem x_istore {i : Nat} {x : Int32} {lv1 : ix_L} (h1 : (ix_MT P)[mid]? = some mi) (h2 : ix_dc mi.2.2.2.2.2.2.2.1 pc = some (.istore i, 2)) (hi : i < lv.length) (hl : ix_st i (.int x) lv = lv1) : xe P d mid pc lv (.int x :: st) h = xe P d mid (pc + 2) lv1 st h := by
  rw [xe_step h1 h2 rfl rfl]
  subst hl
  simp [ix_s1, ix_sv, hi, ix_gi, ix_go, xK]
theorem x_istore_n {i : Fin 4} {x : Int32} {lv1 : ix_L} (h1 : (ix_MT P)[mid]? = some mi) (h2 : ix_dc mi.2.2.2.2.2.2.2.1 pc = some (.istore_n i, 1)) (hi : i.val < lv.length) (hl : ix_st i.val (.int x) lv = lv1) : xe P d mid pc lv (.int x :: st) h = xe P d mid (pc + 1) lv1 st h := by
  rw [xe_step h1 h2 rfl rfl]
  subst hl
  simp [ix_s1, ix_sv, hi, ix_gi, ix_go, xK]
theorem x_astore {i : Nat} {x : Nat} {lv1 : ix_L} (h1 : (ix_MT P)[mid]? = some mi) (h2 : ix_dc mi.2.2.2.2.2.2.2.1 pc = some (.astore i, 2)) (hi : i < lv.length) (hl : ix_st i (.ref x) lv = lv1) : xe P d mid pc lv (.ref x :: st) h = xe P d mid (pc + 2) lv1 st h := by
  rw [xe_step h1 h2 rfl rfl]
  subst hl
  simp [ix_s1, ix_sv, hi, ix_ga, ix_go, xK]
theorem x_astore_n {i : Fin 4} {x : Nat} {lv1 : ix_L} (h1 : (ix_MT P)[mid]? = some mi) (h2 : ix_dc mi.2.2.2.2.2.2.2.1 pc = some (.astore_n i, 1)) (hi : i.val < lv.length) (hl : ix_st i.val (.ref x) lv = lv1) : xe P d mid pc lv (.ref x :: st) h = xe P d mid (pc + 1) lv1 st h := by
  rw [xe_step h1 h2 rfl rfl]
  subst hl
  simp [ix_s1, ix_sv, hi, ix_ga, ix_go, xK]
theorem x_lstore {i : Nat} {x : Int64} {lv1 : ix_L} (h1 : (ix_MT P)[mid]? = some mi) (h2 : ix_dc mi.2.2.2.2.2.2.2.1 pc = some (.lstore i, 2)) (hi : i + 1 < lv.length) (hl : ix_st2 i (.long x) lv = lv1) : xe P d mid pc lv (.long x :: st) h = xe P d mid (pc + 2) lv1 st h := by
  rw [xe_step h1 h2 rfl rfl]
  subst hl
  simp [ix_s1, ix_sv2, hi, ix_gl, ix_go, xK]
theorem x_lstore_n {i : Fin 4} {x : Int64} {lv1 : ix_L} (h1 : (ix_MT P)[mid]? = some mi) (h2 : ix_dc mi.2.2.2.2.2.2.2.1 pc = some (.lstore_n i, 1)) (hi : i.val + 1 < lv.length) (hl : ix_st2 i.val (.long x) lv = lv1) : xe P d mid pc lv (.long x :: st) h = xe P d mid (pc + 1) lv1 st h := by
  rw [xe_step h1 h2 rfl rfl]
  subst hl
  simp [ix_s1, ix_sv2, hi, ix_gl, ix_go, xK]
theorem x_iinc {i : Nat} {n : Int} {x v : Int32} {lv1 : ix_L} (h1 : (ix_MT P)[mid]? = some mi) (h2 : ix_dc mi.2.2.2.2.2.2.2.1 pc = some (.iinc i n, 3)) (hl : lv[i]? = some (some (.int x))) (hv : Int32.ofInt n = v) (hl1 : ix_st i (.int (x + v)) lv = lv1) : xe P d mid pc lv st h = xe P d mid (pc + 3) lv1 st h := by
  rw [xe_step h1 h2 rfl rfl]
  subst hv hl1
  have e : ix_s1 P mi pc lv st h 3 (.iinc i n) = ix_go (pc + 3) (ix_st i (.int (x + Int32.ofInt n)) lv) st h := by
    unfold ix_s1
    simp only [hl]
    exact if_pos ⟨trivial, (List.getElem?_eq_some_iff.mp hl).1⟩
  rw [e]
  rfl
theorem x_pop {v : Value} (h1 : (ix_MT P)[mid]? = some mi) (h2 : ix_dc mi.2.2.2.2.2.2.2.1 pc = some (.pop, 1)) (hk : ix_k1 v = true) : xe P d mid pc lv (v :: st) h = xe P d mid (pc + 1) lv st h := by
  rw [xe_step h1 h2 rfl rfl]
  simp [ix_s1, hk, ix_go, xK]
theorem x_dup {v : Value} (h1 : (ix_MT P)[mid]? = some mi) (h2 : ix_dc mi.2.2.2.2.2.2.2.1 pc = some (.dup, 1)) (hk : ix_k1 v = true) : xe P d mid pc lv (v :: st) h = xe P d mid (pc + 1) lv (v :: v :: st) h := by
  rw [xe_step h1 h2 rfl rfl]
  simp [ix_s1, hk, ix_go, xK]
theorem x_dup_x1 {v u : Value} (h1 : (ix_MT P)[mid]? = some mi) (h2 : ix_dc mi.2.2.2.2.2.2.2.1 pc = some (.dup_x1, 1)) (hk : ix_k1 v = true) (hk2 : ix_k1 u = true) : xe P d mid pc lv (v :: u :: st) h = xe P d mid (pc + 1) lv (v :: u :: v :: st) h := by
  rw [xe_step h1 h2 rfl rfl]
  simp [ix_s1, hk, hk2, ix_go, xK]
theorem x_dup2 {v u : Value} (h1 : (ix_MT P)[mid]? = some mi) (h2 : ix_dc mi.2.2.2.2.2.2.2.1 pc = some (.dup2, 1)) (hk : ix_k1 v = true) (hk2 : ix_k1 u = true) : xe P d mid pc lv (v :: u :: st) h = xe P d mid (pc + 1) lv (v :: u :: v :: u :: st) h := by
  rw [xe_step h1 h2 rfl rfl]
  simp [ix_s1, hk, hk2, ix_go, xK]
theorem x_iadd {x y : Int32} (h1 : (ix_MT P)[mid]? = some mi) (h2 : ix_dc mi.2.2.2.2.2.2.2.1 pc = some (.iadd, 1))  : xe P d mid pc lv (.int y :: .int x :: st) h = xe P d mid (pc + 1) lv (.int (x + y) :: st) h := by
  rw [xe_step h1 h2 rfl rfl]
  simp [ix_s1, ix_ii, ix_go, xK]
theorem x_isub {x y : Int32} (h1 : (ix_MT P)[mid]? = some mi) (h2 : ix_dc mi.2.2.2.2.2.2.2.1 pc = some (.isub, 1))  : xe P d mid pc lv (.int y :: .int x :: st) h = xe P d mid (pc + 1) lv (.int (x - y) :: st) h := by
  rw [xe_step h1 h2 rfl rfl]
  simp [ix_s1, ix_ii, ix_go, xK]
theorem x_imul {x y : Int32} (h1 : (ix_MT P)[mid]? = some mi) (h2 : ix_dc mi.2.2.2.2.2.2.2.1 pc = some (.imul, 1))  : xe P d mid pc lv (.int y :: .int x :: st) h = xe P d mid (pc + 1) lv (.int (x * y) :: st) h := by
  rw [xe_step h1 h2 rfl rfl]
  simp [ix_s1, ix_ii, ix_go, xK]
theorem x_iand {x y : Int32} (h1 : (ix_MT P)[mid]? = some mi) (h2 : ix_dc mi.2.2.2.2.2.2.2.1 pc = some (.iand, 1))  : xe P d mid pc lv (.int y :: .int x :: st) h = xe P d mid (pc + 1) lv (.int (x &&& y) :: st) h := by
  rw [xe_step h1 h2 rfl rfl]
  simp [ix_s1, ix_ii, ix_go, xK]
theorem x_ior {x y : Int32} (h1 : (ix_MT P)[mid]? = some mi) (h2 : ix_dc mi.2.2.2.2.2.2.2.1 pc = some (.ior, 1))  : xe P d mid pc lv (.int y :: .int x :: st) h = xe P d mid (pc + 1) lv (.int (x ||| y) :: st) h := by
  rw [xe_step h1 h2 rfl rfl]
  simp [ix_s1, ix_ii, ix_go, xK]
theorem x_ishl {x y : Int32} (h1 : (ix_MT P)[mid]? = some mi) (h2 : ix_dc mi.2.2.2.2.2.2.2.1 pc = some (.ishl, 1))  : xe P d mid pc lv (.int y :: .int x :: st) h = xe P d mid (pc + 1) lv (.int (x <<< (y &&& 31)) :: st) h := by
  rw [xe_step h1 h2 rfl rfl]
  simp [ix_s1, ix_ii, ix_go, xK]
theorem x_ishr {x y : Int32} (h1 : (ix_MT P)[mid]? = some mi) (h2 : ix_dc mi.2.2.2.2.2.2.2.1 pc = some (.ishr, 1))  : xe P d mid pc lv (.int y :: .int x :: st) h = xe P d mid (pc + 1) lv (.int (x >>> (y &&& 31)) :: st) h := by
  rw [xe_step h1 h2 rfl rfl]
  simp [ix_s1, ix_ii, ix_go, xK]
theorem x_iushr {x y : Int32} (h1 : (ix_MT P)[mid]? = some mi) (h2 : ix_dc mi.2.2.2.2.2.2.2.1 pc = some (.iushr, 1))  : xe P d mid pc lv (.int y :: .int x :: st) h = xe P d mid (pc + 1) lv (.int ((x.toUInt32 >>> (y.toUInt32 &&& Int32.toUInt32 31)).toInt32) :: st) h := by
  rw [xe_step h1 h2 rfl rfl]
  simp [ix_s1, ix_ii, ix_go, xK]
theorem x_idiv {x y : Int32} (h1 : (ix_MT P)[mid]? = some mi) (h2 : ix_dc mi.2.2.2.2.2.2.2.1 pc = some (.idiv, 1)) (hy : y ≠ 0) : xe P d mid pc lv (.int y :: .int x :: st) h = xe P d mid (pc + 1) lv (.int (x / y) :: st) h := by
  rw [xe_step h1 h2 rfl rfl]
  simp [ix_s1, ix_ii, ix_go, xK, hy]
theorem x_irem {x y : Int32} (h1 : (ix_MT P)[mid]? = some mi) (h2 : ix_dc mi.2.2.2.2.2.2.2.1 pc = some (.irem, 1)) (hy : y ≠ 0) : xe P d mid pc lv (.int y :: .int x :: st) h = xe P d mid (pc + 1) lv (.int (x - x / y * y) :: st) h := by
  rw [xe_step h1 h2 rfl rfl]
  simp [ix_s1, ix_ii, ix_go, xK, hy]
theorem x_ineg {x : Int32} (h1 : (ix_MT P)[mid]? = some mi) (h2 : ix_dc mi.2.2.2.2.2.2.2.1 pc = some (.ineg, 1))  : xe P d mid pc lv (.int x :: st) h = xe P d mid (pc + 1) lv (.int (-x) :: st) h := by
  rw [xe_step h1 h2 rfl rfl]
  simp [ix_s1, ix_i, ix_go, xK]
theorem x_i2l {x : Int32} (h1 : (ix_MT P)[mid]? = some mi) (h2 : ix_dc mi.2.2.2.2.2.2.2.1 pc = some (.i2l, 1))  : xe P d mid pc lv (.int x :: st) h = xe P d mid (pc + 1) lv (.long (x.toInt64) :: st) h := by
  rw [xe_step h1 h2 rfl rfl]
  simp [ix_s1, ix_i, ix_go, xK]
theorem x_i2b {x : Int32} (h1 : (ix_MT P)[mid]? = some mi) (h2 : ix_dc mi.2.2.2.2.2.2.2.1 pc = some (.i2b, 1))  : xe P d mid pc lv (.int x :: st) h = xe P d mid (pc + 1) lv (.int (x.toInt8.toInt32) :: st) h := by
  rw [xe_step h1 h2 rfl rfl]
  simp [ix_s1, ix_i, ix_go, xK]
theorem x_i2c {x : Int32} (h1 : (ix_MT P)[mid]? = some mi) (h2 : ix_dc mi.2.2.2.2.2.2.2.1 pc = some (.i2c, 1))  : xe P d mid pc lv (.int x :: st) h = xe P d mid (pc + 1) lv (.int ((x.toUInt32 % 65536).toInt32) :: st) h := by
  rw [xe_step h1 h2 rfl rfl]
  simp [ix_s1, ix_i, ix_go, xK]
theorem x_i2d {x : Int32} (h1 : (ix_MT P)[mid]? = some mi) (h2 : ix_dc mi.2.2.2.2.2.2.2.1 pc = some (.i2d, 1))  : xe P d mid pc lv (.int x :: st) h = xe P d mid (pc + 1) lv (.double (FP.i2d x) :: st) h := by
  rw [xe_step h1 h2 rfl rfl]
  simp [ix_s1, ix_i, ix_go, xK]
theorem x_l2i {x : Int64} (h1 : (ix_MT P)[mid]? = some mi) (h2 : ix_dc mi.2.2.2.2.2.2.2.1 pc = some (.l2i, 1))  : xe P d mid pc lv (.long x :: st) h = xe P d mid (pc + 1) lv (.int x.toInt32 :: st) h := by
  rw [xe_step h1 h2 rfl rfl]
  simp [ix_s1, ix_l, ix_go, xK]
theorem x_ladd {x y : Int64} (h1 : (ix_MT P)[mid]? = some mi) (h2 : ix_dc mi.2.2.2.2.2.2.2.1 pc = some (.ladd, 1))  : xe P d mid pc lv (.long y :: .long x :: st) h = xe P d mid (pc + 1) lv (.long (x + y) :: st) h := by
  rw [xe_step h1 h2 rfl rfl]
  simp [ix_s1, ix_ll, ix_go, xK]
theorem x_lmul {x y : Int64} (h1 : (ix_MT P)[mid]? = some mi) (h2 : ix_dc mi.2.2.2.2.2.2.2.1 pc = some (.lmul, 1))  : xe P d mid pc lv (.long y :: .long x :: st) h = xe P d mid (pc + 1) lv (.long (x * y) :: st) h := by
  rw [xe_step h1 h2 rfl rfl]
  simp [ix_s1, ix_ll, ix_go, xK]
theorem x_lcmp {x y : Int64} (h1 : (ix_MT P)[mid]? = some mi) (h2 : ix_dc mi.2.2.2.2.2.2.2.1 pc = some (.lcmp, 1))  : xe P d mid pc lv (.long y :: .long x :: st) h = xe P d mid (pc + 1) lv (.int (lg_cmp x y) :: st) h := by
  rw [xe_step h1 h2 rfl rfl]
  simp [ix_s1, ix_ll, ix_go, xK]
theorem x_dcmp {x y : UInt64} {op : CmpOp} (h1 : (ix_MT P)[mid]? = some mi) (h2 : ix_dc mi.2.2.2.2.2.2.2.1 pc = some (.dcmp op, 1))  : xe P d mid pc lv (.double y :: .double x :: st) h = xe P d mid (pc + 1) lv (.int (Op.cmpValue (FP.dcmp x y) op) :: st) h := by
  rw [xe_step h1 h2 rfl rfl]
  simp [ix_s1, ix_dd, ix_go, xK]
theorem x_ddiv {x y : UInt64} (h1 : (ix_MT P)[mid]? = some mi) (h2 : ix_dc mi.2.2.2.2.2.2.2.1 pc = some (.ddiv, 1)) (hn : FP.ddiv x y &&& 0x7fffffffffffffff ≤ 0x7ff0000000000000) : xe P d mid pc lv (.double y :: .double x :: st) h = xe P d mid (pc + 1) lv (.double (FP.ddiv x y) :: st) h := by
  rw [xe_step h1 h2 rfl rfl]
  simp only [ix_s1, ix_dd, ix_go, if_true, eq_self]
  rw [if_pos hn]
  rfl
theorem x_goto {off : Int} {tgt : Nat} (h1 : (ix_MT P)[mid]? = some mi) (h2 : ix_dc mi.2.2.2.2.2.2.2.1 pc = some (.goto off, 3)) (ho : ix_ok pc off = true) (ht : ix_tg pc off = tgt) : xe P d mid pc lv st h = xe P d mid tgt lv st h := by
  rw [xe_step h1 h2 rfl rfl]
  subst ht
  simp [ix_s1, ho, ix_go, xK]
theorem x_if_eq {x : Int32} {off : Int} {tgt : Nat} (h1 : (ix_MT P)[mid]? = some mi) (h2 : ix_dc mi.2.2.2.2.2.2.2.1 pc = some (.ifCond .eq off, 3)) (ho : ix_ok pc off = true) (ht : ix_tg pc off = tgt) : xe P d mid pc lv (.int x :: st) h = if x = 0 then xe P d mid tgt lv st h else xe P d mid (pc + 3) lv st h := by
  rw [xe_step h1 h2 rfl rfl]
  subst ht
  by_cases hc : x = 0 <;> simp [ix_s1, ix_i, ix_br, ix_ic, ho, ix_go, xK, hc]
theorem x_icmp_eq {x y : Int32} {off : Int} {tgt : Nat} (h1 : (ix_MT P)[mid]? = some mi) (h2 : ix_dc mi.2.2.2.2.2.2.2.1 pc = some (.if_icmp .eq off, 3)) (ho : ix_ok pc off = true) (ht : ix_tg pc off = tgt) : xe P d mid pc lv (.int y :: .int x :: st) h = if x = y then xe P d mid tgt lv st h else xe P d mid (pc + 3) lv st h := by
  rw [xe_step h1 h2 rfl rfl]
  subst ht
  by_cases hc : x = y <;> simp [ix_s1, ix_ii, ix_br, ix_ic, ho, ix_go, xK, hc]
theorem x_if_ne {x : Int32} {off : Int} {tgt : Nat} (h1 : (ix_MT P)[mid]? = some mi) (h2 : ix_dc mi.2.2.2.2.2.2.2.1 pc = some (.ifCond .ne off, 3)) (ho : ix_ok pc off = true) (ht : ix_tg pc off = tgt) : xe P d mid pc lv (.int x :: st) h = if ¬ x = 0 then xe P d mid tgt lv st h else xe P d mid (pc + 3) lv st h := by
  rw [xe_step h1 h2 rfl rfl]
  subst ht
  by_cases hc : ¬ x = 0 <;> simp [ix_s1, ix_i, ix_br, ix_ic, ho, ix_go, xK, hc]
theorem x_icmp_ne {x y : Int32} {off : Int} {tgt : Nat} (h1 : (ix_MT P)[mid]? = some mi) (h2 : ix_dc mi.2.2.2.2.2.2.2.1 pc = some (.if_icmp .ne off, 3)) (ho : ix_ok pc off = true) (ht : ix_tg pc off = tgt) : xe P d mid pc lv (.int y :: .int x :: st) h = if ¬ x = y then xe P d mid tgt lv st h else xe P d mid (pc + 3) lv st h := by
  rw [xe_step h1 h2 rfl rfl]
  subst ht
  by_cases hc : ¬ x = y <;> simp [ix_s1, ix_ii, ix_br, ix_ic, ho, ix_go, xK, hc]
theorem x_if_lt {x : Int32} {off : Int} {tgt : Nat} (h1 : (ix_MT P)[mid]? = some mi) (h2 : ix_dc mi.2.2.2.2.2.2.2.1 pc = some (.ifCond .lt off, 3)) (ho : ix_ok pc off = true) (ht : ix_tg pc off = tgt) : xe P d mid pc lv (.int x :: st) h = if x < 0 then xe P d mid tgt lv st h else xe P d mid (pc + 3) lv st h := by
  rw [xe_step h1 h2 rfl rfl]
  subst ht
  by_cases hc : x < 0 <;> simp [ix_s1, ix_i, ix_br, ix_ic, ho, ix_go, xK, hc]
theorem x_icmp_lt {x y : Int32} {off : Int} {tgt : Nat} (h1 : (ix_MT P)[mid]? = some mi) (h2 : ix_dc mi.2.2.2.2.2.2.2.1 pc = some (.if_icmp .lt off, 3)) (ho : ix_ok pc off = true) (ht : ix_tg pc off = tgt) : xe P d mid pc lv (.int y :: .int x :: st) h = if x < y then xe P d mid tgt lv st h else xe P d mid (pc + 3) lv st h := by
  rw [xe_step h1 h2 rfl rfl]
  subst ht
  by_cases hc : x < y <;> simp [ix_s1, ix_ii, ix_br, ix_ic, ho, ix_go, xK, hc]
theorem x_if_ge {x : Int32} {off : Int} {tgt : Nat} (h1 : (ix_MT P)[mid]? = some mi) (h2 : ix_dc mi.2.2.2.2.2.2.2.1 pc = some (.ifCond .ge off, 3)) (ho : ix_ok pc off = true) (ht : ix_tg pc off = tgt) : xe P d mid pc lv (.int x :: st) h = if 0 ≤ x then xe P d mid tgt lv st h else xe P d mid (pc + 3) lv st h := by
  rw [xe_step h1 h2 rfl rfl]
  subst ht
  by_cases hc : 0 ≤ x <;> simp [ix_s1, ix_i, ix_br, ix_ic, ho, ix_go, xK, hc]
theorem x_icmp_ge {x y : Int32} {off : Int} {tgt : Nat} (h1 : (ix_MT P)[mid]? = some mi) (h2 : ix_dc mi.2.2.2.2.2.2.2.1 pc = some (.if_icmp .ge off, 3)) (ho : ix_ok pc off = true) (ht : ix_tg pc off = tgt) : xe P d mid pc lv (.int y :: .int x :: st) h = if y ≤ x then xe P d mid tgt lv st h else xe P d mid (pc + 3) lv st h := by
  rw [xe_step h1 h2 rfl rfl]
  subst ht
  by_cases hc : y ≤ x <;> simp [ix_s1, ix_ii, ix_br, ix_ic, ho, ix_go, xK, hc]
theorem x_if_gt {x : Int32} {off : Int} {tgt : Nat} (h1 : (ix_MT P)[mid]? = some mi) (h2 : ix_dc mi.2.2.2.2.2.2.2.1 pc = some (.ifCond .gt off, 3)) (ho : ix_ok pc off = true) (ht : ix_tg pc off = tgt) : xe P d mid pc lv (.int x :: st) h = if 0 < x then xe P d mid tgt lv st h else xe P d mid (pc + 3) lv st h := by
  rw [xe_step h1 h2 rfl rfl]
  subst ht
  by_cases hc : 0 < x <;> simp [ix_s1, ix_i, ix_br, ix_ic, ho, ix_go, xK, hc]
theorem x_icmp_gt {x y : Int32} {off : Int} {tgt : Nat} (h1 : (ix_MT P)[mid]? = some mi) (h2 : ix_dc mi.2.2.2.2.2.2.2.1 pc = some (.if_icmp .gt off, 3)) (ho : ix_ok pc off = true) (ht : ix_tg pc off = tgt) : xe P d mid pc lv (.int y :: .int x :: st) h = if y < x then xe P d mid tgt lv st h else xe P d mid (pc + 3) lv st h := by
  rw [xe_step h1 h2 rfl rfl]
  subst ht
  by_cases hc : y < x <;> simp [ix_s1, ix_ii, ix_br, ix_ic, ho, ix_go, xK, hc]
theorem x_if_le {x : Int32} {off : Int} {tgt : Nat} (h1 : (ix_MT P)[mid]? = some mi) (h2 : ix_dc mi.2.2.2.2.2.2.2.1 pc = some (.ifCond .le off, 3)) (ho : ix_ok pc off = true) (ht : ix_tg pc off = tgt) : xe P d mid pc lv (.int x :: st) h = if x ≤ 0 then xe P d mid tgt lv st h else xe P d mid (pc + 3) lv st h := by
  rw [xe_step h1 h2 rfl rfl]
  subst ht
  by_cases hc : x ≤ 0 <;> simp [ix_s1, ix_i, ix_br, ix_ic, ho, ix_go, xK, hc]
theorem x_icmp_le {x y : Int32} {off : Int} {tgt : Nat} (h1 : (ix_MT P)[mid]? = some mi) (h2 : ix_dc mi.2.2.2.2.2.2.2.1 pc = some (.if_icmp .le off, 3)) (ho : ix_ok pc off = true) (ht : ix_tg pc off = tgt) : xe P d mid pc lv (.int y :: .int x :: st) h = if x ≤ y then xe P d mid tgt lv st h else xe P d mid (pc + 3) lv st h := by
  rw [xe_step h1 h2 rfl rfl]
  subst ht
  by_cases hc : x ≤ y <;> simp [ix_s1, ix_ii, ix_br, ix_ic, ho, ix_go, xK, hc]
theorem x_ifnonnull {o : Nat} {off : Int} {tgt : Nat} (h1 : (ix_MT P)[mid]? = some mi) (h2 : ix_dc mi.2.2.2.2.2.2.2.1 pc = some (.ifnonnull off, 3)) (ho : ix_ok pc off = true) (ht : ix_tg pc off = tgt) : xe P d mid pc lv (.ref o :: st) h = xe P d mid tgt lv st h := by
  rw [xe_step h1 h2 rfl rfl]
  subst ht
  simp [ix_s1, ix_a, ix_br, ho, ix_go, xK]
theorem x_tsw {dflt lo hi off : Int} {offs : Array Int} {x : Int32} {tgt : Nat} (h1 : (ix_MT P)[mid]? = some mi) (h2 : ix_dc mi.2.2.2.2.2.2.2.1 pc = some (.tableswitch dflt lo hi offs, len)) (hc : ¬ (x.toInt < lo ∨ hi < x.toInt)) (hf : offs[(x.toInt - lo).toNat]? = some off) (ho : ix_ok pc off = true) (ht : ix_tg pc off = tgt) : xe P d mid pc lv (.int x :: st) h = xe P d mid tgt lv st h := by
  rw [xe_step h1 h2 rfl rfl]
  subst ht
  simp only [ix_s1, ix_i]
  rw [if_neg hc, hf]
  simp only
  rw [if_pos ho]
  rfl
theorem x_tswD {dflt lo hi : Int} {offs : Array Int} {x : Int32} {tgt : Nat} (h1 : (ix_MT P)[mid]? = some mi) (h2 : ix_dc mi.2.2.2.2.2.2.2.1 pc = some (.tableswitch dflt lo hi offs, len)) (hc : x.toInt < lo ∨ hi < x.toInt) (ho : ix_ok pc dflt = true) (ht : ix_tg pc dflt = tgt) : xe P d mid pc lv (.int x :: st) h = xe P d mid tgt lv st h := by
  rw [xe_step h1 h2 rfl rfl]
  subst ht
  simp only [ix_s1, ix_i]
  rw [if_pos hc, if_pos ho]
  rfl
theorem x_lsw {dflt off : Int} {ps : Array (Int × Int)} {x : Int32} {tgt : Nat} (h1 : (ix_MT P)[mid]? = some mi) (h2 : ix_dc mi.2.2.2.2.2.2.2.1 pc = some (.lookupswitch dflt ps, len)) (hp : ((ps.toList.zip (ps.toList.drop 1)).all (fun (a, next) => a.1 < next.1)) = true) (hf : Op.lookupswitch.offset ps.toList dflt x.toInt = off) (ho : ix_ok pc off = true) (ht : ix_tg pc off = tgt) : xe P d mid pc lv (.int x :: st) h = xe P d mid tgt lv st h := by
  rw [xe_step h1 h2 rfl rfl]
  subst ht
  subst hf
  simp only [ix_s1]
  rw [if_pos hp]
  simp only [ix_i]
  rw [if_pos ho]
  rfl
theorem x_iaload {i : Int32} {o : Nat} (h1 : (ix_MT P)[mid]? = some mi) (h2 : ix_dc mi.2.2.2.2.2.2.2.1 pc = some (.iaload, 1))  : xe P d mid pc lv (.int i :: .ref o :: st) h = xG P d mid (pc + 1) lv st h (rA h o i) := by
  rw [xe_step h1 h2 rfl rfl]
  simp only [ix_s1, ix_ir, rA, ix_ai, if_true]
  split
  · split <;> rfl
  · rfl
theorem x_baload {i : Int32} {o : Nat} (h1 : (ix_MT P)[mid]? = some mi) (h2 : ix_dc mi.2.2.2.2.2.2.2.1 pc = some (.baload, 1))  : xe P d mid pc lv (.int i :: .ref o :: st) h = xG P d mid (pc + 1) lv st h (rB h o i) := by
  rw [xe_step h1 h2 rfl rfl]
  simp only [ix_s1, ix_ir, rB, ix_ai, if_true]
  split
  · split <;> rfl
  · rfl
theorem x_laload {i : Int32} {o : Nat} (h1 : (ix_MT P)[mid]? = some mi) (h2 : ix_dc mi.2.2.2.2.2.2.2.1 pc = some (.laload, 1))  : xe P d mid pc lv (.int i :: .ref o :: st) h = xG P d mid (pc + 1) lv st h (rJ h o i) := by
  rw [xe_step h1 h2 rfl rfl]
  simp only [ix_s1, ix_ir, rJ, ix_all, if_true]
  split
  · split <;> rfl
  · rfl
theorem x_aaload {i : Int32} {o : Nat} (h1 : (ix_MT P)[mid]? = some mi) (h2 : ix_dc mi.2.2.2.2.2.2.2.1 pc = some (.aaload, 1))  : xe P d mid pc lv (.int i :: .ref o :: st) h = xG P d mid (pc + 1) lv st h (rQ P h o i) := by
  rw [xe_step h1 h2 rfl rfl]
  simp only [ix_s1, ix_ir, rQ, ix_aq, if_true]
  split
  · split <;> rfl
  · rfl
theorem x_arraylength {o : Nat} (h1 : (ix_MT P)[mid]? = some mi) (h2 : ix_dc mi.2.2.2.2.2.2.2.1 pc = some (.arraylength, 1))  : xe P d mid pc lv (.ref o :: st) h = xG P d mid (pc + 1) lv st h (rN P h o) := by
  rw [xe_step h1 h2 rfl rfl]
  simp only [ix_s1, ix_r, rN, ix_ar, if_true]
  split
  · split
    · next h0 => rw [h0]; rfl
    · next h0 => rw [h0]; rfl
  · rfl
theorem x_getfield {i o : Nat} {e : ix_F} (h1 : (ix_MT P)[mid]? = some mi) (h2 : ix_dc mi.2.2.2.2.2.2.2.1 pc = some (.getfield i, 3)) (h3 : ix_fd mi.2.1 i (ix_FT P) = some e) : xe P d mid pc lv (.ref o :: st) h = xG P d mid (pc + 3) lv st h (rF P h o e) := by
  rw [xe_step h1 h2 rfl rfl]
  simp only [ix_s1, ix_r, h3, rF, ix_ob, if_true]
  split
  · next c fs hh =>
    by_cases hc : (ix_NR P ≤ o ∨ e.2.2.2.2 = none) ∧ c = e.1
    · rw [if_pos hc, if_pos hc]
      cases fs[e.2.1]? <;> rfl
    · rw [if_neg hc, if_neg hc]
      rfl
  · rfl
theorem x_putfield {i o : Nat} {e : ix_F} {v : Value} {ini : Bool} (h1 : (ix_MT P)[mid]? = some mi) (h2 : ix_dc mi.2.2.2.2.2.2.2.1 pc = some (.putfield i, 3)) (h3 : ix_fd mi.2.1 i (ix_FT P) = some e) (h4 : mi.2.2.2.2.2.2.1 = ini) : xe P d mid pc lv (v :: .ref o :: st) h = xH P d mid (pc + 3) lv st (wF P h o e ini v) := by
  rw [xe_step h1 h2 rfl rfl]
  subst h4
  simp only [ix_s1, ix_vr, h3, wF, ix_ob, if_true]
  split
  · split <;> rfl
  · rfl
theorem x_iastore {i v : Int32} {o : Nat} (h1 : (ix_MT P)[mid]? = some mi) (h2 : ix_dc mi.2.2.2.2.2.2.2.1 pc = some (.iastore, 1))  : xe P d mid pc lv (.int v :: .int i :: .ref o :: st) h = xH P d mid (pc + 1) lv st (wA P h o i v) := by
  rw [xe_step h1 h2 rfl rfl]
  simp only [ix_s1, ix_iir, wA, ix_ai, if_true]
  split
  · split <;> rfl
  · rfl
theorem x_bastore {i v : Int32} {o : Nat} (h1 : (ix_MT P)[mid]? = some mi) (h2 : ix_dc mi.2.2.2.2.2.2.2.1 pc = some (.bastore, 1))  : xe P d mid pc lv (.int v :: .int i :: .ref o :: st) h = xH P d mid (pc + 1) lv st (wB P h o i v) := by
  rw [xe_step h1 h2 rfl rfl]
  simp only [ix_s1, ix_iir, wB, ix_ai, if_true]
  split
  · split <;> rfl
  · rfl
theorem x_lastore {i : Int32} {v : Int64} {o : Nat} (h1 : (ix_MT P)[mid]? = some mi) (h2 : ix_dc mi.2.2.2.2.2.2.2.1 pc = some (.lastore, 1))  : xe P d mid pc lv (.long v :: .int i :: .ref o :: st) h = xH P d mid (pc + 1) lv st (wJ P h o i v) := by
  rw [xe_step h1 h2 rfl rfl]
  simp only [ix_s1, ix_lir, wJ, ix_all, if_true]
  split
  · split <;> rfl
  · rfl
theorem x_aastore {i : Int32} {v o : Nat} (h1 : (ix_MT P)[mid]? = some mi) (h2 : ix_dc mi.2.2.2.2.2.2.2.1 pc = some (.aastore, 1))  : xe P d mid pc lv (.ref v :: .int i :: .ref o :: st) h = xH P d mid (pc + 1) lv st (wQ P h o i v) := by
  rw [xe_step h1 h2 rfl rfl]
  simp only [ix_s1, ix_rir, wQ, ix_aq, ix_ai, if_true]
  split
  · split
    · split <;> rfl
    · rfl
  · rfl
theorem x_newarray {a : ArrayType} {t : Nat} {n : Int32} (h1 : (ix_MT P)[mid]? = some mi) (h2 : ix_dc mi.2.2.2.2.2.2.2.1 pc = some (.newarray a, 2)) (h3 : ix_pt a = some t) (hn : ix_big n = true) : xe P d mid pc lv (.int n :: st) h = xe P d mid (pc + 2) lv (.ref h.length :: st) (h ++ [.inl (t, n.toNatClampNeg, ix_z (newarray.typeOf a))]) := by
  rw [xe_step h1 h2 rfl rfl]
  simp [ix_s1, ix_i, h3, hn, ix_go, xK]
theorem x_anewarray {i : Nat} {n : Int32} (h1 : (ix_MT P)[mid]? = some mi) (h2 : ix_dc mi.2.2.2.2.2.2.2.1 pc = some (.anewarray i, 3)) (h3 : ix_fd mi.2.1 i (ix_AT P) = some 5) (hn : ix_big n = true) : xe P d mid pc lv (.int n :: st) h = xe P d mid (pc + 3) lv (.ref h.length :: st) (h ++ [.inl (5, n.toNatClampNeg, .inr (.inr (.inr (.inr (fun _ => none)))))]) := by
  rw [xe_step h1 h2 rfl rfl]
  simp [ix_s1, ix_i, h3, hn, ix_go, xK]
  rfl
theorem x_multianewarray {i : Nat} {n k : Int32} (h1 : (ix_MT P)[mid]? = some mi) (h2 : ix_dc mi.2.2.2.2.2.2.2.1 pc = some (.multianewarray i 2, 4)) (h3 : ix_fd mi.2.1 i (ix_AT P) = some 6) (hn : ix_big n = true) (hk : ix_big k = true) : xe P d mid pc lv (.int k :: .int n :: st) h = xe P d mid (pc + 4) lv (.ref h.length :: st) (h ++ ix_gr h.length n.toNatClampNeg k.toNatClampNeg) := by
  rw [xe_step h1 h2 rfl rfl]
  simp [ix_s1, ix_ii, h3, hn, hk, ix_go, xK]
theorem x_new {i : Nat} {e : Nat × List FieldType} (h1 : (ix_MT P)[mid]? = some mi) (h2 : ix_dc mi.2.2.2.2.2.2.2.1 pc = some (.new i, 3)) (h3 : ix_fd mi.2.1 i (ix_NT P) = some e) (h4 : ix_fd mid pc (ix_XT P) = none) : xe P d mid pc lv st h = xe P d mid (pc + 3) lv (.ref h.length :: st) (h ++ [.inr (e.1, e.2.map defaultValue)]) := by
  rw [xe_step h1 h2 (by unfold ix_tw; rw [h4]) rfl]
  simp [ix_s1, h3, ix_go, xK]
theorem x_checkcast {i o : Nat} (h1 : (ix_MT P)[mid]? = some mi) (h2 : ix_dc mi.2.2.2.2.2.2.2.1 pc = some (.checkcast i, 3)) (h3 : ix_fd mi.2.1 i (ix_AT P) = some 2) (h4 : rT P h o = true) : xe P d mid pc lv (.ref o :: st) h = xe P d mid (pc + 3) lv (.ref o :: st) h := by
  rw [xe_step h1 h2 rfl rfl]
  unfold rT at h4
  simp only [ix_s1, ix_r, ix_ar, h3, if_true]
  split at h4
  · next t x hh =>
    simp only [Bool.and_eq_true, decide_eq_true_eq] at h4
    rw [hh]
    simp [h4, ix_go, xK]
  · cases h4
theorem x_objinit {i o : Nat} (h1 : (ix_MT P)[mid]? = some mi) (h2 : ix_dc mi.2.2.2.2.2.2.2.1 pc = some (.invokespecial i, 3)) (h3 : ix_fd mi.2.1 i (ix_NV P) = some 0) (h0 : ix_fd mi.2.1 i (ix_CT P) = none) (hs : (st.map Value.category).sum ≤ 8)  : xe P d mid pc lv (.ref o :: st) h = xe P d mid (pc + 3) lv st h := by
  rw [xe_step h1 h2 rfl (by simp [ix_cl, ix_s2, h0])]
  simp [ix_s1, ix_r, h3, hs, ix_go, xK]
theorem x_arraycopy {i src dst : Nat} {sp dp n : Int32} (h1 : (ix_MT P)[mid]? = some mi) (h2 : ix_dc mi.2.2.2.2.2.2.2.1 pc = some (.invokestatic i, 3)) (h3 : ix_fd mi.2.1 i (ix_NV P) = some 1) (h0 : ix_fd mi.2.1 i (ix_CT P) = none) (hs : (st.map Value.category).sum ≤ 8)  : xe P d mid pc lv (.int n :: .int dp :: .ref dst :: .int sp :: .ref src :: st) h = xH P d mid (pc + 3) lv st (wY P h src sp dst dp n) := by
  rw [xe_step h1 h2 rfl (by simp [ix_cl, ix_s2, h0])]
  simp only [ix_s1, h3, ix_cy, wY, ix_ai, and_self, if_true]
  split
  · next t n0 f hh =>
    split
    · next t2 n1 g hg =>
      simp only [hs, and_true]
      split <;> rfl
    · rfl
  · rfl
theorem x_mmax {i : Nat} {x y : Int32} (h1 : (ix_MT P)[mid]? = some mi) (h2 : ix_dc mi.2.2.2.2.2.2.2.1 pc = some (.invokestatic i, 3)) (h3 : ix_fd mi.2.1 i (ix_NV P) = some 3) (h0 : ix_fd mi.2.1 i (ix_CT P) = none) (hs : (st.map Value.category).sum ≤ 8)  : xe P d mid pc lv (.int y :: .int x :: st) h = xe P d mid (pc + 3) lv (.int (if x < y then y else x) :: st) h := by
  rw [xe_step h1 h2 rfl (by simp [ix_cl, ix_s2, h0])]
  simp [ix_s1, ix_ii, h3, hs, ix_go, xK]
theorem x_mmin {i : Nat} {x y : Int32} (h1 : (ix_MT P)[mid]? = some mi) (h2 : ix_dc mi.2.2.2.2.2.2.2.1 pc = some (.invokestatic i, 3)) (h3 : ix_fd mi.2.1 i (ix_NV P) = some 4) (h0 : ix_fd mi.2.1 i (ix_CT P) = none) (hs : (st.map Value.category).sum ≤ 8)  : xe P d mid pc lv (.int y :: .int x :: st) h = xe P d mid (pc + 3) lv (.int (if y < x then y else x) :: st) h := by
  rw [xe_step h1 h2 rfl (by simp [ix_cl, ix_s2, h0])]
  simp [ix_s1, ix_ii, h3, hs, ix_go, xK]
theorem x_clone {i o : Nat} (h1 : (ix_MT P)[mid]? = some mi) (h2 : ix_dc mi.2.2.2.2.2.2.2.1 pc = some (.invokevirtual i, 3)) (h3 : ix_fd mi.2.1 i (ix_NV P) = some 2) (h0 : ix_fd mi.2.1 i (ix_CT P) = none) (hs : (st.map Value.category).sum ≤ 8)  : xe P d mid pc lv (.ref o :: st) h = xH P d mid (pc + 3) lv (.ref h.length :: st) (rY P h o) := by
  rw [xe_step h1 h2 rfl (by simp [ix_cl, ix_s2, h0])]
  simp only [ix_s1, ix_r, h3, rY, ix_ai, and_self, if_true]
  split
  · next t n a hh =>
    simp only [hs, and_true]
    split <;> rfl
  · rfl
theorem x_ireturn {ty : FieldType} {v : Value} (h1 : (ix_MT P)[mid]? = some mi) (h2 : ix_dc mi.2.2.2.2.2.2.2.1 pc = some (.ireturn, 1)) (h3 : mi.2.2.2.2.1 = some ty) (h4 : ix_rk (some ty) = 1) (h5 : ix_ft ty v = true) : xe P d mid pc lv [v] h = some (.inl (some v), h) := by
  rw [xe_step h1 h2 rfl rfl]
  simp [ix_s1, h3, h4, ix_rt, h5, xK]
theorem x_lreturn {ty : FieldType} {v : Value} (h1 : (ix_MT P)[mid]? = some mi) (h2 : ix_dc mi.2.2.2.2.2.2.2.1 pc = some (.lreturn, 1)) (h3 : mi.2.2.2.2.1 = some ty) (h4 : ix_rk (some ty) = 2) (h5 : ix_ft ty v = true) : xe P d mid pc lv [v] h = some (.inl (some v), h) := by
  rw [xe_step h1 h2 rfl rfl]
  simp [ix_s1, h3, h4, ix_rt, h5, xK]
theorem x_dreturn {ty : FieldType} {v : Value} (h1 : (ix_MT P)[mid]? = some mi) (h2 : ix_dc mi.2.2.2.2.2.2.2.1 pc = some (.dreturn, 1)) (h3 : mi.2.2.2.2.1 = some ty) (h4 : ix_rk (some ty) = 3) (h5 : ix_ft ty v = true) : xe P d mid pc lv [v] h = some (.inl (some v), h) := by
  rw [xe_step h1 h2 rfl rfl]
  simp [ix_s1, h3, h4, ix_rt, h5, xK]
theorem x_areturn {ty : FieldType} {v : Value} (h1 : (ix_MT P)[mid]? = some mi) (h2 : ix_dc mi.2.2.2.2.2.2.2.1 pc = some (.areturn, 1)) (h3 : mi.2.2.2.2.1 = some ty) (h4 : ix_rk (some ty) = 4) (h5 : ix_ft ty v = true) : xe P d mid pc lv [v] h = some (.inl (some v), h) := by
  rw [xe_step h1 h2 rfl rfl]
  simp [ix_s1, h3, h4, ix_rt, h5, xK]
theorem x_return (h1 : (ix_MT P)[mid]? = some mi) (h2 : ix_dc mi.2.2.2.2.2.2.2.1 pc = some (.return_, 1)) (h3 : mi.2.2.2.2.1 = none) : xe P d mid pc lv [] h = some (.inl none, h) := by
  rw [xe_step h1 h2 rfl rfl]
  simp [ix_s1, h3, xK]
theorem ix_s2_of {i k3 : Nat} {kx : ix_K} {me : ix_M} {as rest : List Value} (h3 : ix_fd mi.2.1 i (ix_CT P) = some kx) (h4 : (ix_MT P)[kx.2.1]? = some me) (h5 : kx.1 % 3 = k3) (h6 : as.length = me.2.2.2.2.2.1) (h7 : (rest.map Value.category).sum ≤ 8) (h8 : (ix_sl as).length ≤ me.2.2.2.1) (h9 : kx.1 % 3 = 1 ∨ ∃ o as', as = .ref o :: as' ∧ ix_is P h o kx.2.2.1 = true) (hst : st = as.reverse ++ rest) : ix_s2 P mi st h i k3 = some (kx, me, as, rest) := by
  subst hst
  unfold ix_s2
  rw [h3]
  simp only
  rw [h4]
  simp only
  have e1 : (as.reverse ++ rest).take me.2.2.2.2.2.1 = as.reverse := by rw [← h6, ← List.length_reverse, List.take_left]
  have e2 : (as.reverse ++ rest).drop me.2.2.2.2.2.1 = rest := by rw [← h6, ← List.length_reverse, List.drop_left]
  rw [e1, e2, List.reverse_reverse, if_pos]
  refine ⟨h5, by rw [List.length_append, List.length_reverse]; omega, h7, h8, ?_⟩
  rcases h9 with h9 | ⟨o, as', rfl, h9⟩
  · exact Or.inl h9
  · right
    have e3 : ((Value.ref o :: as').reverse ++ rest)[me.2.2.2.2.2.1 - 1]? = some (.ref o) := by
      rw [← h6]
      rw [List.getElem?_append_left (by rw [List.length_reverse]; simp), List.getElem?_reverse (by simp)]
      simp
    rw [e3]
    simp only [Bool.and_eq_true, decide_eq_true_eq]
    refine ⟨?_, h9⟩
    rw [← h6]
    simp

theorem x_invokevirtual {i o : Nat} {kx : ix_K} {me : ix_M} {as : List Value} {rest : List Value} {lv0 : ix_L} (h1 : (ix_MT P)[mid]? = some mi) (h2 : ix_dc mi.2.2.2.2.2.2.2.1 pc = some (.invokevirtual i, 3)) (h3 : ix_fd mi.2.1 i (ix_CT P) = some kx) (h4 : (ix_MT P)[kx.2.1]? = some me) (h5 : kx.1 % 3 = 0) (h6 : as.length + 1 = me.2.2.2.2.2.1) (h8 : (ix_sl (.ref o :: as)).length ≤ me.2.2.2.1) (h10 : ix_fd mid pc (ix_HT P) = none) (hl : ix_en me.2.2.2.1 (.ref o :: as) = lv0) (hst : st = as.reverse ++ .ref o :: rest) (h7 : (rest.map Value.category).sum ≤ 8) (h9 : ix_is P h o kx.2.2.1 = true) : xe P (d + 1) mid pc lv st h = xC P (d + 1) mid (pc + 3) lv rest (xe P d kx.2.1 0 lv0 [] h) := by
  subst hl
  exact xe_call h1 h2 rfl (by show (if 3 = 3 then ix_s2 P mi st h i 0 else none) = _; rw [if_pos rfl]; exact ix_s2_of h3 h4 h5 (by simpa using h6) h7 h8 (Or.inr ⟨o, as, rfl, h9⟩) (by rw [hst]; simp)) h10
theorem x_invokespecial {i o : Nat} {kx : ix_K} {me : ix_M} {as : List Value} {rest : List Value} {lv0 : ix_L} (h1 : (ix_MT P)[mid]? = some mi) (h2 : ix_dc mi.2.2.2.2.2.2.2.1 pc = some (.invokespecial i, 3)) (h3 : ix_fd mi.2.1 i (ix_CT P) = some kx) (h4 : (ix_MT P)[kx.2.1]? = some me) (h5 : kx.1 % 3 = 2) (h6 : as.length + 1 = me.2.2.2.2.2.1) (h8 : (ix_sl (.ref o :: as)).length ≤ me.2.2.2.1) (h10 : ix_fd mid pc (ix_HT P) = none) (hl : ix_en me.2.2.2.1 (.ref o :: as) = lv0) (hst : st = as.reverse ++ .ref o :: rest) (h7 : (rest.map Value.category).sum ≤ 8) (h9 : ix_is P h o kx.2.2.1 = true) : xe P (d + 1) mid pc lv st h = xC P (d + 1) mid (pc + 3) lv rest (xe P d kx.2.1 0 lv0 [] h) := by
  subst hl
  exact xe_call h1 h2 rfl (by show (if 3 = 3 then ix_s2 P mi st h i 2 else none) = _; rw [if_pos rfl]; exact ix_s2_of h3 h4 h5 (by simpa using h6) h7 h8 (Or.inr ⟨o, as, rfl, h9⟩) (by rw [hst]; simp)) h10
theorem x_invokestatic {i : Nat} {kx : ix_K} {me : ix_M} {as : List Value} {rest : List Value} {lv0 : ix_L} (h1 : (ix_MT P)[mid]? = some mi) (h2 : ix_dc mi.2.2.2.2.2.2.2.1 pc = some (.invokestatic i, 3)) (h3 : ix_fd mi.2.1 i (ix_CT P) = some kx) (h4 : (ix_MT P)[kx.2.1]? = some me) (h5 : kx.1 % 3 = 1) (h6 : as.length = me.2.2.2.2.2.1) (h8 : (ix_sl as).length ≤ me.2.2.2.1) (h10 : ix_fd mid pc (ix_HT P) = none) (hl : ix_en me.2.2.2.1 as = lv0) (hst : st = as.reverse ++ rest) (h7 : (rest.map Value.category).sum ≤ 8) : xe P (d + 1) mid pc lv st h = xC P (d + 1) mid (pc + 3) lv rest (xe P d kx.2.1 0 lv0 [] h) := by
  subst hl
  exact xe_call h1 h2 rfl (by show (if 3 = 3 then ix_s2 P mi st h i 1 else none) = _; rw [if_pos rfl]; exact ix_s2_of h3 h4 h5 h6 h7 h8 (Or.inl h5) hst) h10
end XI
