/-! THE READER: its world (written by gen60.py). N: row 0 next, kind, failed, fault, faultToken, the tokens' kind; row 1 kinds, row 2 starts. L: row 0 the value, 1 keywords, 2 values, 3 .. 6 names of bays, chimneys, cradles, flocks. -/
abbrev Jem : Type := Nat → Nat → Int64
def ja (n : Nat) (a : Nat → Int64) : ix_C := .inl (1, n, .inr (.inl a))
def jm (L : Jem) (a i : Nat) (v : Int64) : Jem := fun b => if b = a then vp_updL (L b) i v else L b
def cj (n : Nat) (a : Nat → Int64) (i : Int32) : Int64 := if ix_in i n = true then a i.toNatClampNeg else 0
def clJ (h : ix_H) (o : Nat) (i : Int32) : Int64 := match h[o]? with
  | some (.inl (_, n, .inr (.inl a))) => cj n a i
  | _ => 0
def isJ (h : ix_H) (o : Nat) : Bool := match h[o]? with
  | some (.inl (t, n, .inr (.inl _))) => decide (t = 1) && decide (n ≤ 50000000)
  | _ => false
def ptJ (h : ix_H) (o : Nat) (i : Int32) (v : Int64) : ix_H := match h[o]? with
  | some (.inl (t, n, .inr (.inl a))) => if ix_in i n = true then h.set o (.inl (t, n, .inr (.inl (vp_updL a i.toNatClampNeg v)))) else h
  | _ => h
def rdc (r pl : Nat) (N : Mem) (L : Jem) : List ix_C := [.inr (3, [.ref (r + 1), .ref (r + 6), .ref (r + 7), .ref (r + 8), .ref (r + 9), .ref pl, .int (N 0 0), .int (N 0 1), .int (N 0 2), .int (N 0 3), .int (N 0 4)]), .inr (5, [.ref (r + 2), .ref (r + 3), .ref (r + 4), .ref (r + 5), .int (N 0 5), .long (L 0 0)]), ja 30 (L 1), ia 401 (N 1), ia 401 (N 2), ja 401 (L 2), ja 5 (L 3), ja 4 (L 4), ja 3 (L 5), ja 3 (L 6)]
def wR (h : ix_H) (r pl : Nat) (N : Mem) (L : Jem) (Q : Mem) : ix_H := ov (wP h pl Q) r (rdc r pl N L)
def gR (h : ix_H) (r pl : Nat) : Prop := 98 ≤ r ∧ r + 10 ≤ pl ∧ pl + 22 ≤ h.length
section JROWS
variable {fv : Value} {d : Nat} {h : ix_H} {o : Nat}
theorem isJ_of (e : isJ h o = true) : ∃ n a, h[o]? = some (.inl (1, n, .inr (.inl a))) ∧ n ≤ 50000000 := by
  unfold isJ at e
  split at e
  · next t n a q =>
    rw [Bool.and_eq_true, decide_eq_true_eq, decide_eq_true_eq] at e
    exact ⟨n, a, by rw [q, e.1], e.2⟩
  · cases e
theorem rJ_of {n : Nat} {a : Nat → Int64} {i : Int32} (e : h[o]? = some (.inl (1, n, .inr (.inl a)))) (hi : ix_in i n = true) : rJ h o i = some (.long (a i.toNatClampNeg)) := by
  unfold rJ ix_all
  rw [e]
  exact if_pos ⟨rfl, hi⟩
theorem wJ_of {n : Nat} {a : Nat → Int64} {i : Int32} {v : Int64} (e : h[o]? = some (.inl (1, n, .inr (.inl a)))) (ho : 98 ≤ o) (hi : ix_in i n = true) : wJ (ixP fv) h o i v = some (h.set o (.inl (1, n, .inr (.inl (vp_updL a i.toNatClampNeg v))))) := by
  unfold wJ ix_all
  rw [e]
  exact if_pos ⟨ho, rfl, hi⟩
theorem m116 {i : Int32} (ho : isJ h o = true) : xe (ixP fv) d 116 0 [some (.ref o), some (.int i)] [] h = some (.inl (some (.long (clJ h o i))), h) := by
  obtain ⟨n, a, e, hn⟩ := isJ_of ho
  have e1 : rN (ixP fv) h o = some (.int (nI n)) := rN_of e (by decide)
  have e3 : clJ h o i = cj n a i := by unfold clJ; rw [e]
  have z : (0 : Int32).toInt64 = 0 := by decide
  rw [e3]
  unfold cj
  rw [ix_in_of hn]
  by_cases c1 : i < 0
  · simp only [q116_0, q116_1, q116_4, q116_5, q116_6, q116_7, q116_10, q116_11, q116_12, q116_13, q116_16, q116_17 (st := []), i10, eq_self, ft0, ft1, b01_ft, k1r, k1i, xG_some, xH_some, xC_v, xC_n, if_true, if_false, not_true_eq_false, not_false_eq_true, ix_st, ix_st2, List.getElem?_cons_succ, List.getElem?_cons_zero, List.set_cons_succ, List.set_cons_zero, Value.category, List.map_cons, List.map_nil, List.sum_cons, List.sum_nil, Nat.reduceAdd, Nat.reduceLeDiff, Nat.reduceEqDiff, Nat.zero_le, reduceCtorEq, ↓reduceIte, c1, z, decide_false, Bool.false_and, Bool.false_eq_true]
  by_cases c2 : nI n ≤ i
  · simp only [q116_0, q116_1, q116_4, q116_5, q116_6, q116_7, q116_10, q116_11, q116_12, q116_13, q116_16, q116_17 (st := []), i10, eq_self, ft0, ft1, b01_ft, k1r, k1i, xG_some, xH_some, xC_v, xC_n, if_true, if_false, not_true_eq_false, not_false_eq_true, ix_st, ix_st2, List.getElem?_cons_succ, List.getElem?_cons_zero, List.set_cons_succ, List.set_cons_zero, Value.category, List.map_cons, List.map_nil, List.sum_cons, List.sum_nil, Nat.reduceAdd, Nat.reduceLeDiff, Nat.reduceEqDiff, Nat.zero_le, reduceCtorEq, ↓reduceIte, e1, c1, c2, z, decide_true, decide_false, Bool.and_false, Bool.false_eq_true]
  have e2 := rJ_of e (i := i) (by rw [ix_in_of hn]; simp [c1, c2])
  simp only [q116_0, q116_1, q116_4, q116_5, q116_6, q116_7, q116_10, q116_11, q116_12, q116_13, q116_16, q116_17 (st := []), i10, eq_self, ft0, ft1, b01_ft, k1r, k1i, xG_some, xH_some, xC_v, xC_n, if_true, if_false, not_true_eq_false, not_false_eq_true, ix_st, ix_st2, List.getElem?_cons_succ, List.getElem?_cons_zero, List.set_cons_succ, List.set_cons_zero, Value.category, List.map_cons, List.map_nil, List.sum_cons, List.sum_nil, Nat.reduceAdd, Nat.reduceLeDiff, Nat.reduceEqDiff, Nat.zero_le, reduceCtorEq, ↓reduceIte, e1, e2, c1, c2, decide_true, Bool.and_self]
theorem m118 {i : Int32} {v : Int64} (ho : isJ h o = true) (hr : 98 ≤ o) : xe (ixP fv) d 118 0 [some (.ref o), some (.int i), some (.long v), none] [] h = some (.inl none, ptJ h o i v) := by
  obtain ⟨n, a, e, hn⟩ := isJ_of ho
  have e1 : rN (ixP fv) h o = some (.int (nI n)) := rN_of e (by decide)
  have e3 : ptJ h o i v = if ix_in i n = true then h.set o (.inl (1, n, .inr (.inl (vp_updL a i.toNatClampNeg v)))) else h := by unfold ptJ; rw [e]
  rw [e3, ix_in_of hn]
  by_cases c1 : i < 0
  · simp only [q118_0, q118_1, q118_4, q118_5, q118_6, q118_7, q118_10, q118_11, q118_12, q118_13, q118_14 (st := []), i10, eq_self, ft0, ft1, b01_ft, k1r, k1i, xG_some, xH_some, xC_v, xC_n, if_true, if_false, not_true_eq_false, not_false_eq_true, ix_st, ix_st2, List.getElem?_cons_succ, List.getElem?_cons_zero, List.set_cons_succ, List.set_cons_zero, Value.category, List.map_cons, List.map_nil, List.sum_cons, List.sum_nil, Nat.reduceAdd, Nat.reduceLeDiff, Nat.reduceEqDiff, Nat.zero_le, reduceCtorEq, ↓reduceIte, c1, decide_false, Bool.false_and, Bool.false_eq_true]
  by_cases c2 : nI n ≤ i
  · simp only [q118_0, q118_1, q118_4, q118_5, q118_6, q118_7, q118_10, q118_11, q118_12, q118_13, q118_14 (st := []), i10, eq_self, ft0, ft1, b01_ft, k1r, k1i, xG_some, xH_some, xC_v, xC_n, if_true, if_false, not_true_eq_false, not_false_eq_true, ix_st, ix_st2, List.getElem?_cons_succ, List.getElem?_cons_zero, List.set_cons_succ, List.set_cons_zero, Value.category, List.map_cons, List.map_nil, List.sum_cons, List.sum_nil, Nat.reduceAdd, Nat.reduceLeDiff, Nat.reduceEqDiff, Nat.zero_le, reduceCtorEq, ↓reduceIte, e1, c1, c2, decide_true, decide_false, Bool.and_false, Bool.false_eq_true]
  have e2 := wJ_of (fv := fv) e hr (i := i) (v := v) (by rw [ix_in_of hn]; simp [c1, c2])
  simp only [q118_0, q118_1, q118_4, q118_5, q118_6, q118_7, q118_10, q118_11, q118_12, q118_13, q118_14 (st := []), i10, eq_self, ft0, ft1, b01_ft, k1r, k1i, xG_some, xH_some, xC_v, xC_n, if_true, if_false, not_true_eq_false, not_false_eq_true, ix_st, ix_st2, List.getElem?_cons_succ, List.getElem?_cons_zero, List.set_cons_succ, List.set_cons_zero, Value.category, List.map_cons, List.map_nil, List.sum_cons, List.sum_nil, Nat.reduceAdd, Nat.reduceLeDiff, Nat.reduceEqDiff, Nat.zero_le, reduceCtorEq, ↓reduceIte, e1, e2, c1, c2, decide_true, Bool.and_self]
/-- the place of a name, -1 without any -/
def fnd (b : Nat → Int64) (x : Int64) (m : Nat) : Int32 := xit id (fun _ => -1) (itx (fun k (_ : Unit) => if lg_cmp (b k) x = 0 then .inl (nI k) else .inr ()) 0 m ())
theorem m61 {n m : Nat} {a : Nat → Int64} {x : Int64} (e : h[o]? = some (.inl (1, n, .inr (.inl a)))) (hm : m ≤ n) (hn : n ≤ 50) : xe (ixP fv) d 61 0 [some (.ref o), some (.int (nI m)), some (.long x), none, none] [] h = some (.inl (some (.int (fnd a x m))), h) := by
  have e1 : rN (ixP fv) h o = some (.int (nI n)) := rN_of e (by decide)
  have key := lpNX (J := Unit) (Y := fun _ k (_ : Unit) => xe (ixP fv) d 61 3 [some (.ref o), some (.int (nI m)), some (.long x), none, some (.int (nI k))] [] h) (E := fun a => some (.inl (some (.int a)), h)) (F := fun _ => some (.inl (some (.int (-1))), h)) (m := m) (f := fun k (_ : Unit) => if lg_cmp (a k) x = 0 then .inl (nI k) else .inr ()) (fun j k u hk => ⟨(), by
    have h1 : ¬ nI m ≤ nI k := nI_ge hk (by omega)
    have h2 : ¬ nI n ≤ nI k := nI_ge (by omega) (by omega)
    have e2 : rJ h o (nI k) = some (.long (a k)) := (rJ_of e (in_nI (by omega) hn)).trans (by rw [nI_clamp (by omega)])
    by_cases c1 : lg_cmp (a k) x = 0 <;> simp only [q61_3 (x := nI k), q61_5, q61_6, q61_9, q61_11, q61_12, q61_13, q61_16, q61_17, q61_19, q61_20, q61_21, q61_22, q61_25, q61_27 (st := []), q61_28, q61_31, i10, eq_self, ft0, ft1, b01_ft, k1r, k1i, xG_some, xH_some, xC_v, xC_n, if_true, if_false, not_true_eq_false, not_false_eq_true, ix_st, ix_st2, List.getElem?_cons_succ, List.getElem?_cons_zero, List.set_cons_succ, List.set_cons_zero, Value.category, List.map_cons, List.map_nil, List.sum_cons, List.sum_nil, Nat.reduceAdd, Nat.reduceLeDiff, Nat.reduceEqDiff, Nat.zero_le, reduceCtorEq, ↓reduceIte, nI_1, xit, e1, e2, h1, h2, c1]⟩) (fun j u => by
    simp only [q61_3, q61_5, q61_6, q61_34, q61_35 (st := []), i10, eq_self, ft0, ft1, b01_ft, k1r, k1i, xG_some, xH_some, xC_v, xC_n, if_true, if_false, not_true_eq_false, not_false_eq_true, ix_st, ix_st2, List.getElem?_cons_succ, List.getElem?_cons_zero, List.set_cons_succ, List.set_cons_zero, Value.category, List.map_cons, List.map_nil, List.sum_cons, List.sum_nil, Nat.reduceAdd, Nat.reduceLeDiff, Nat.reduceEqDiff, Nat.zero_le, reduceCtorEq, ↓reduceIte, gz]) () ()
  simp only [q61_0, q61_1, i10, eq_self, ft0, ft1, b01_ft, k1r, k1i, xG_some, xH_some, xC_v, xC_n, if_true, if_false, not_true_eq_false, not_false_eq_true, ix_st, ix_st2, List.getElem?_cons_succ, List.getElem?_cons_zero, List.set_cons_succ, List.set_cons_zero, Value.category, List.map_cons, List.map_nil, List.sum_cons, List.sum_nil, Nat.reduceAdd, Nat.reduceLeDiff, Nat.reduceEqDiff, Nat.zero_le, reduceCtorEq, ↓reduceIte]
  refine key.trans ?_
  unfold fnd
  cases itx (fun k (_ : Unit) => if lg_cmp (a k) x = 0 then .inl (nI k) else .inr ()) 0 m () <;> rfl
end JROWS
section READ
variable {fv : Value} {d : Nat} {h : ix_H} {r pl q : Nat} {N Q : Mem} {L : Jem} {v w i : Int32}
theorem wR_len : (wR h r pl N L Q).length = h.length := (ov_len _ _ _).trans wP_len
theorem gR_P (g : gR h r pl) : gP h pl := by
  obtain ⟨a, b, c⟩ := g
  exact ⟨by omega, c⟩
theorem wR_P (g : gR h r pl) : wR h r pl N L Q = wP (ov h r (rdc r pl N L)) pl Q := (ov_comm (cs := rdc r pl N L) (cs' := plc pl Q) (h := h) (by have := g.2.1; show r + 10 ≤ pl; exact this)).symm
theorem gR_P' (g : gR h r pl) : gP (ov h r (rdc r pl N L)) pl := by
  have := gR_P g
  exact ⟨this.1, by rw [ov_len]; exact this.2⟩
theorem wR_c0 (g : gR h r pl) : (wR h r pl N L Q)[r]? = some (.inr (3, [.ref (r + 1), .ref (r + 6), .ref (r + 7), .ref (r + 8), .ref (r + 9), .ref pl, .int (N 0 0), .int (N 0 1), .int (N 0 2), .int (N 0 3), .int (N 0 4)])) := (ov_in0 (cs := rdc r pl N L) (by have := g.2.1; have := g.2.2; rw [wP_len]; show r + 10 ≤ _; omega) (by show _ < 10; decide)).trans rfl
theorem oR0 (g : gR h r pl) : 98 ≤ r + 0 := Nat.le_trans g.1 (Nat.le_add_right r 0)
theorem wR_c1 (g : gR h r pl) : (wR h r pl N L Q)[(r + 1)]? = some (.inr (5, [.ref (r + 2), .ref (r + 3), .ref (r + 4), .ref (r + 5), .int (N 0 5), .long (L 0 0)])) := (ov_in (cs := rdc r pl N L) (by have := g.2.1; have := g.2.2; rw [wP_len]; show r + 10 ≤ _; omega) (by show _ < 10; decide)).trans rfl
theorem oR1 (g : gR h r pl) : 98 ≤ r + 1 := Nat.le_trans g.1 (Nat.le_add_right r 1)
theorem wR_c2 (g : gR h r pl) : (wR h r pl N L Q)[(r + 2)]? = some (ja 30 (L 1)) := (ov_in (cs := rdc r pl N L) (by have := g.2.1; have := g.2.2; rw [wP_len]; show r + 10 ≤ _; omega) (by show _ < 10; decide)).trans rfl
theorem oR2 (g : gR h r pl) : 98 ≤ r + 2 := Nat.le_trans g.1 (Nat.le_add_right r 2)
theorem wR_c3 (g : gR h r pl) : (wR h r pl N L Q)[(r + 3)]? = some (ia 401 (N 1)) := (ov_in (cs := rdc r pl N L) (by have := g.2.1; have := g.2.2; rw [wP_len]; show r + 10 ≤ _; omega) (by show _ < 10; decide)).trans rfl
theorem oR3 (g : gR h r pl) : 98 ≤ r + 3 := Nat.le_trans g.1 (Nat.le_add_right r 3)
theorem wR_c4 (g : gR h r pl) : (wR h r pl N L Q)[(r + 4)]? = some (ia 401 (N 2)) := (ov_in (cs := rdc r pl N L) (by have := g.2.1; have := g.2.2; rw [wP_len]; show r + 10 ≤ _; omega) (by show _ < 10; decide)).trans rfl
theorem oR4 (g : gR h r pl) : 98 ≤ r + 4 := Nat.le_trans g.1 (Nat.le_add_right r 4)
theorem wR_c5 (g : gR h r pl) : (wR h r pl N L Q)[(r + 5)]? = some (ja 401 (L 2)) := (ov_in (cs := rdc r pl N L) (by have := g.2.1; have := g.2.2; rw [wP_len]; show r + 10 ≤ _; omega) (by show _ < 10; decide)).trans rfl
theorem oR5 (g : gR h r pl) : 98 ≤ r + 5 := Nat.le_trans g.1 (Nat.le_add_right r 5)
theorem wR_c6 (g : gR h r pl) : (wR h r pl N L Q)[(r + 6)]? = some (ja 5 (L 3)) := (ov_in (cs := rdc r pl N L) (by have := g.2.1; have := g.2.2; rw [wP_len]; show r + 10 ≤ _; omega) (by show _ < 10; decide)).trans rfl
theorem oR6 (g : gR h r pl) : 98 ≤ r + 6 := Nat.le_trans g.1 (Nat.le_add_right r 6)
theorem wR_c7 (g : gR h r pl) : (wR h r pl N L Q)[(r + 7)]? = some (ja 4 (L 4)) := (ov_in (cs := rdc r pl N L) (by have := g.2.1; have := g.2.2; rw [wP_len]; show r + 10 ≤ _; omega) (by show _ < 10; decide)).trans rfl
theorem oR7 (g : gR h r pl) : 98 ≤ r + 7 := Nat.le_trans g.1 (Nat.le_add_right r 7)
theorem wR_c8 (g : gR h r pl) : (wR h r pl N L Q)[(r + 8)]? = some (ja 3 (L 5)) := (ov_in (cs := rdc r pl N L) (by have := g.2.1; have := g.2.2; rw [wP_len]; show r + 10 ≤ _; omega) (by show _ < 10; decide)).trans rfl
theorem oR8 (g : gR h r pl) : 98 ≤ r + 8 := Nat.le_trans g.1 (Nat.le_add_right r 8)
theorem wR_c9 (g : gR h r pl) : (wR h r pl N L Q)[(r + 9)]? = some (ja 3 (L 6)) := (ov_in (cs := rdc r pl N L) (by have := g.2.1; have := g.2.2; rw [wP_len]; show r + 10 ≤ _; omega) (by show _ < 10; decide)).trans rfl
theorem oR9 (g : gR h r pl) : 98 ≤ r + 9 := Nat.le_trans g.1 (Nat.le_add_right r 9)
theorem rR0 {ty : FieldType} {fin : Bool} {X : Option String} (g : gR h r pl) : rF (ixP fv) (wR h r pl N L Q) r (3, 0, ty, fin, X) = some (.ref (r + 1)) := rF_of (wR_c0 g) g.1 rfl
theorem rR1 {ty : FieldType} {fin : Bool} {X : Option String} (g : gR h r pl) : rF (ixP fv) (wR h r pl N L Q) r (3, 1, ty, fin, X) = some (.ref (r + 6)) := rF_of (wR_c0 g) g.1 rfl
theorem rR2 {ty : FieldType} {fin : Bool} {X : Option String} (g : gR h r pl) : rF (ixP fv) (wR h r pl N L Q) r (3, 2, ty, fin, X) = some (.ref (r + 7)) := rF_of (wR_c0 g) g.1 rfl
theorem rR3 {ty : FieldType} {fin : Bool} {X : Option String} (g : gR h r pl) : rF (ixP fv) (wR h r pl N L Q) r (3, 3, ty, fin, X) = some (.ref (r + 8)) := rF_of (wR_c0 g) g.1 rfl
theorem rR4 {ty : FieldType} {fin : Bool} {X : Option String} (g : gR h r pl) : rF (ixP fv) (wR h r pl N L Q) r (3, 4, ty, fin, X) = some (.ref (r + 9)) := rF_of (wR_c0 g) g.1 rfl
theorem rR5 {ty : FieldType} {fin : Bool} {X : Option String} (g : gR h r pl) : rF (ixP fv) (wR h r pl N L Q) r (3, 5, ty, fin, X) = some (.ref pl) := rF_of (wR_c0 g) g.1 rfl
theorem rR6 {ty : FieldType} {fin : Bool} {X : Option String} (g : gR h r pl) : rF (ixP fv) (wR h r pl N L Q) r (3, 6, ty, fin, X) = some (.int (N 0 0)) := rF_of (wR_c0 g) g.1 rfl
theorem rR7 {ty : FieldType} {fin : Bool} {X : Option String} (g : gR h r pl) : rF (ixP fv) (wR h r pl N L Q) r (3, 7, ty, fin, X) = some (.int (N 0 1)) := rF_of (wR_c0 g) g.1 rfl
theorem rR8 {ty : FieldType} {fin : Bool} {X : Option String} (g : gR h r pl) : rF (ixP fv) (wR h r pl N L Q) r (3, 8, ty, fin, X) = some (.int (N 0 2)) := rF_of (wR_c0 g) g.1 rfl
theorem rR9 {ty : FieldType} {fin : Bool} {X : Option String} (g : gR h r pl) : rF (ixP fv) (wR h r pl N L Q) r (3, 9, ty, fin, X) = some (.int (N 0 3)) := rF_of (wR_c0 g) g.1 rfl
theorem rR10 {ty : FieldType} {fin : Bool} {X : Option String} (g : gR h r pl) : rF (ixP fv) (wR h r pl N L Q) r (3, 10, ty, fin, X) = some (.int (N 0 4)) := rF_of (wR_c0 g) g.1 rfl
theorem rT0' {ty : FieldType} {fin : Bool} {X : Option String} (g : gR h r pl) : rF (ixP fv) (wR h r pl N L Q) (r + 1) (5, 0, ty, fin, X) = some (.ref (r + 2)) := rF_of (wR_c1 g) (oR1 g) rfl
theorem rT1' {ty : FieldType} {fin : Bool} {X : Option String} (g : gR h r pl) : rF (ixP fv) (wR h r pl N L Q) (r + 1) (5, 1, ty, fin, X) = some (.ref (r + 3)) := rF_of (wR_c1 g) (oR1 g) rfl
theorem rT2' {ty : FieldType} {fin : Bool} {X : Option String} (g : gR h r pl) : rF (ixP fv) (wR h r pl N L Q) (r + 1) (5, 2, ty, fin, X) = some (.ref (r + 4)) := rF_of (wR_c1 g) (oR1 g) rfl
theorem rT3' {ty : FieldType} {fin : Bool} {X : Option String} (g : gR h r pl) : rF (ixP fv) (wR h r pl N L Q) (r + 1) (5, 3, ty, fin, X) = some (.ref (r + 5)) := rF_of (wR_c1 g) (oR1 g) rfl
theorem rT4' {ty : FieldType} {fin : Bool} {X : Option String} (g : gR h r pl) : rF (ixP fv) (wR h r pl N L Q) (r + 1) (5, 4, ty, fin, X) = some (.int (N 0 5)) := rF_of (wR_c1 g) (oR1 g) rfl
theorem rT5' {ty : FieldType} {fin : Bool} {X : Option String} (g : gR h r pl) : rF (ixP fv) (wR h r pl N L Q) (r + 1) (5, 5, ty, fin, X) = some (.long (L 0 0)) := rF_of (wR_c1 g) (oR1 g) rfl
theorem wRf6 {X : Option String} {ini : Bool} (g : gR h r pl) : wF (ixP fv) (wR h r pl N L Q) r (3, 6, .int, false, X) ini (.int v) = some (wR h r pl (sm N 0 0 v) L Q) := (wF_of (wR_c0 g) g.1 (by show _ < 11; decide) rfl (Or.inl rfl)).trans (congrArg some ((ov_set0 (cs := rdc r pl N L) (by show _ < 10; decide)).trans rfl))
theorem wRf7 {X : Option String} {ini : Bool} (g : gR h r pl) : wF (ixP fv) (wR h r pl N L Q) r (3, 7, .int, false, X) ini (.int v) = some (wR h r pl (sm N 0 1 v) L Q) := (wF_of (wR_c0 g) g.1 (by show _ < 11; decide) rfl (Or.inl rfl)).trans (congrArg some ((ov_set0 (cs := rdc r pl N L) (by show _ < 10; decide)).trans rfl))
theorem wRf9 {X : Option String} {ini : Bool} (g : gR h r pl) : wF (ixP fv) (wR h r pl N L Q) r (3, 9, .int, false, X) ini (.int v) = some (wR h r pl (sm N 0 3 v) L Q) := (wF_of (wR_c0 g) g.1 (by show _ < 11; decide) rfl (Or.inl rfl)).trans (congrArg some ((ov_set0 (cs := rdc r pl N L) (by show _ < 10; decide)).trans rfl))
theorem wRf10 {X : Option String} {ini : Bool} (g : gR h r pl) : wF (ixP fv) (wR h r pl N L Q) r (3, 10, .int, false, X) ini (.int v) = some (wR h r pl (sm N 0 4 v) L Q) := (wF_of (wR_c0 g) g.1 (by show _ < 11; decide) rfl (Or.inl rfl)).trans (congrArg some ((ov_set0 (cs := rdc r pl N L) (by show _ < 10; decide)).trans rfl))
theorem wRf8 {X : Option String} {ini : Bool} (g : gR h r pl) (hv : ix_ft .boolean (.int v) = true) : wF (ixP fv) (wR h r pl N L Q) r (3, 8, .boolean, false, X) ini (.int v) = some (wR h r pl (sm N 0 2 v) L Q) := (wF_of (wR_c0 g) g.1 (by show _ < 11; decide) hv (Or.inl rfl)).trans (congrArg some ((ov_set0 (cs := rdc r pl N L) (by show _ < 10; decide)).trans rfl))
theorem wTf4 {X : Option String} {ini : Bool} (g : gR h r pl) : wF (ixP fv) (wR h r pl N L Q) (r + 1) (5, 4, .int, false, X) ini (.int v) = some (wR h r pl (sm N 0 5 v) L Q) := (wF_of (wR_c1 g) (oR1 g) (by show _ < 6; decide) rfl (Or.inl rfl)).trans (congrArg some ((ov_set (cs := rdc r pl N L) (by show _ < 10; decide)).trans rfl))
theorem wTf5 {X : Option String} {ini : Bool} {z : Int64} (g : gR h r pl) : wF (ixP fv) (wR h r pl N L Q) (r + 1) (5, 5, .long, false, X) ini (.long z) = some (wR h r pl N (jm L 0 0 z) Q) := (wF_of (wR_c1 g) (oR1 g) (by show _ < 6; decide) rfl (Or.inl rfl)).trans (congrArg some ((ov_set (cs := rdc r pl N L) (by show _ < 10; decide)).trans rfl))
theorem iR3 (g : gR h r pl) : isI (wR h r pl N L Q) (r + 3) = true := by unfold isI; rw [wR_c3 g]; rfl
theorem cR3 (g : gR h r pl) : cl (wR h r pl N L Q) (r + 3) i = ca 401 (N 1) i := by unfold cl; rw [wR_c3 g]; rfl
theorem pR3 (g : gR h r pl) : pt (wR h r pl N L Q) (r + 3) i v = wR h r pl (sp N 1 401 i v) L Q := by
  unfold pt; rw [wR_c3 g]; unfold ia sp; dsimp only; split
  · exact (ov_set (cs := rdc r pl N L) (by show _ < 10; decide)).trans rfl
  · rfl
theorem iR4 (g : gR h r pl) : isI (wR h r pl N L Q) (r + 4) = true := by unfold isI; rw [wR_c4 g]; rfl
theorem cR4 (g : gR h r pl) : cl (wR h r pl N L Q) (r + 4) i = ca 401 (N 2) i := by unfold cl; rw [wR_c4 g]; rfl
theorem pR4 (g : gR h r pl) : pt (wR h r pl N L Q) (r + 4) i v = wR h r pl (sp N 2 401 i v) L Q := by
  unfold pt; rw [wR_c4 g]; unfold ia sp; dsimp only; split
  · exact (ov_set (cs := rdc r pl N L) (by show _ < 10; decide)).trans rfl
  · rfl
def sj (L : Jem) (a n : Nat) (i : Int32) (v : Int64) : Jem := if ix_in i n = true then jm L a i.toNatClampNeg v else L
theorem iR2 (g : gR h r pl) : isJ (wR h r pl N L Q) (r + 2) = true := by unfold isJ; rw [wR_c2 g]; rfl
theorem cR2 (g : gR h r pl) : clJ (wR h r pl N L Q) (r + 2) i = cj 30 (L 1) i := by unfold clJ; rw [wR_c2 g]; rfl
theorem lR_2 (g : gR h r pl) : rN (ixP fv) (wR h r pl N L Q) (r + 2) = some (.int (nI 30)) := rN_of (wR_c2 g) (by decide)
theorem pR2 {z : Int64} (g : gR h r pl) : ptJ (wR h r pl N L Q) (r + 2) i z = wR h r pl N (sj L 1 30 i z) Q := by
  unfold ptJ; rw [wR_c2 g]; unfold ja sj; dsimp only; split
  · exact (ov_set (cs := rdc r pl N L) (by show _ < 10; decide)).trans rfl
  · rfl
theorem iR5 (g : gR h r pl) : isJ (wR h r pl N L Q) (r + 5) = true := by unfold isJ; rw [wR_c5 g]; rfl
theorem cR5 (g : gR h r pl) : clJ (wR h r pl N L Q) (r + 5) i = cj 401 (L 2) i := by unfold clJ; rw [wR_c5 g]; rfl
theorem lR_5 (g : gR h r pl) : rN (ixP fv) (wR h r pl N L Q) (r + 5) = some (.int (nI 401)) := rN_of (wR_c5 g) (by decide)
theorem pR5 {z : Int64} (g : gR h r pl) : ptJ (wR h r pl N L Q) (r + 5) i z = wR h r pl N (sj L 2 401 i z) Q := by
  unfold ptJ; rw [wR_c5 g]; unfold ja sj; dsimp only; split
  · exact (ov_set (cs := rdc r pl N L) (by show _ < 10; decide)).trans rfl
  · rfl
theorem iR6 (g : gR h r pl) : isJ (wR h r pl N L Q) (r + 6) = true := by unfold isJ; rw [wR_c6 g]; rfl
theorem cR6 (g : gR h r pl) : clJ (wR h r pl N L Q) (r + 6) i = cj 5 (L 3) i := by unfold clJ; rw [wR_c6 g]; rfl
theorem lR_6 (g : gR h r pl) : rN (ixP fv) (wR h r pl N L Q) (r + 6) = some (.int (nI 5)) := rN_of (wR_c6 g) (by decide)
theorem pR6 {z : Int64} (g : gR h r pl) : ptJ (wR h r pl N L Q) (r + 6) i z = wR h r pl N (sj L 3 5 i z) Q := by
  unfold ptJ; rw [wR_c6 g]; unfold ja sj; dsimp only; split
  · exact (ov_set (cs := rdc r pl N L) (by show _ < 10; decide)).trans rfl
  · rfl
theorem iR7 (g : gR h r pl) : isJ (wR h r pl N L Q) (r + 7) = true := by unfold isJ; rw [wR_c7 g]; rfl
theorem cR7 (g : gR h r pl) : clJ (wR h r pl N L Q) (r + 7) i = cj 4 (L 4) i := by unfold clJ; rw [wR_c7 g]; rfl
theorem lR_7 (g : gR h r pl) : rN (ixP fv) (wR h r pl N L Q) (r + 7) = some (.int (nI 4)) := rN_of (wR_c7 g) (by decide)
theorem pR7 {z : Int64} (g : gR h r pl) : ptJ (wR h r pl N L Q) (r + 7) i z = wR h r pl N (sj L 4 4 i z) Q := by
  unfold ptJ; rw [wR_c7 g]; unfold ja sj; dsimp only; split
  · exact (ov_set (cs := rdc r pl N L) (by show _ < 10; decide)).trans rfl
  · rfl
theorem iR8 (g : gR h r pl) : isJ (wR h r pl N L Q) (r + 8) = true := by unfold isJ; rw [wR_c8 g]; rfl
theorem cR8 (g : gR h r pl) : clJ (wR h r pl N L Q) (r + 8) i = cj 3 (L 5) i := by unfold clJ; rw [wR_c8 g]; rfl
theorem lR_8 (g : gR h r pl) : rN (ixP fv) (wR h r pl N L Q) (r + 8) = some (.int (nI 3)) := rN_of (wR_c8 g) (by decide)
theorem pR8 {z : Int64} (g : gR h r pl) : ptJ (wR h r pl N L Q) (r + 8) i z = wR h r pl N (sj L 5 3 i z) Q := by
  unfold ptJ; rw [wR_c8 g]; unfold ja sj; dsimp only; split
  · exact (ov_set (cs := rdc r pl N L) (by show _ < 10; decide)).trans rfl
  · rfl
theorem iR9 (g : gR h r pl) : isJ (wR h r pl N L Q) (r + 9) = true := by unfold isJ; rw [wR_c9 g]; rfl
theorem cR9 (g : gR h r pl) : clJ (wR h r pl N L Q) (r + 9) i = cj 3 (L 6) i := by unfold clJ; rw [wR_c9 g]; rfl
theorem lR_9 (g : gR h r pl) : rN (ixP fv) (wR h r pl N L Q) (r + 9) = some (.int (nI 3)) := rN_of (wR_c9 g) (by decide)
theorem pR9 {z : Int64} (g : gR h r pl) : ptJ (wR h r pl N L Q) (r + 9) i z = wR h r pl N (sj L 6 3 i z) Q := by
  unfold ptJ; rw [wR_c9 g]; unfold ja sj; dsimp only; split
  · exact (ov_set (cs := rdc r pl N L) (by show _ < 10; decide)).trans rfl
  · rfl
theorem isRR (g : gR h r pl) : ix_is (ixP fv) (wR h r pl N L Q) r "SkylightWash$Reader" = true := is_of (wR_c0 g) (by decide +kernel)
theorem isRT (g : gR h r pl) : ix_is (ixP fv) (wR h r pl N L Q) (r + 1) "SkylightWash$Tokens" = true := is_of (wR_c1 g) (by decide +kernel)
theorem isRP (g : gR h r pl) : ix_is (ixP fv) (wR h r pl N L Q) pl "SkylightWash$Plan" = true := by rw [wR_P g]; exact isPP (gR_P' g)
theorem isRO (g : gR h r pl) : ix_is (ixP fv) (wR h r pl N L Q) (pl + 14) "SkylightWash$Orders" = true := by rw [wR_P g]; exact isPO (gR_P' g)
theorem rRp0 {ty : FieldType} {fin : Bool} {X : Option String} (g : gR h r pl) : rF (ixP fv) (wR h r pl N L Q) pl (2, 0, ty, fin, X) = some (.int (Q 0 0)) := by rw [wR_P g]; exact rPp0 (gR_P' g)
theorem rRp1 {ty : FieldType} {fin : Bool} {X : Option String} (g : gR h r pl) : rF (ixP fv) (wR h r pl N L Q) pl (2, 1, ty, fin, X) = some (.ref (pl + 1)) := by rw [wR_P g]; exact rPp1 (gR_P' g)
theorem rRp2 {ty : FieldType} {fin : Bool} {X : Option String} (g : gR h r pl) : rF (ixP fv) (wR h r pl N L Q) pl (2, 2, ty, fin, X) = some (.ref (pl + 2)) := by rw [wR_P g]; exact rPp2 (gR_P' g)
theorem rRp3 {ty : FieldType} {fin : Bool} {X : Option String} (g : gR h r pl) : rF (ixP fv) (wR h r pl N L Q) pl (2, 3, ty, fin, X) = some (.ref (pl + 3)) := by rw [wR_P g]; exact rPp3 (gR_P' g)
theorem rRp4 {ty : FieldType} {fin : Bool} {X : Option String} (g : gR h r pl) : rF (ixP fv) (wR h r pl N L Q) pl (2, 4, ty, fin, X) = some (.int (Q 0 1)) := by rw [wR_P g]; exact rPp4 (gR_P' g)
theorem rRp5 {ty : FieldType} {fin : Bool} {X : Option String} (g : gR h r pl) : rF (ixP fv) (wR h r pl N L Q) pl (2, 5, ty, fin, X) = some (.ref (pl + 4)) := by rw [wR_P g]; exact rPp5 (gR_P' g)
theorem rRp6 {ty : FieldType} {fin : Bool} {X : Option String} (g : gR h r pl) : rF (ixP fv) (wR h r pl N L Q) pl (2, 6, ty, fin, X) = some (.int (Q 0 2)) := by rw [wR_P g]; exact rPp6 (gR_P' g)
theorem rRp7 {ty : FieldType} {fin : Bool} {X : Option String} (g : gR h r pl) : rF (ixP fv) (wR h r pl N L Q) pl (2, 7, ty, fin, X) = some (.ref (pl + 5)) := by rw [wR_P g]; exact rPp7 (gR_P' g)
theorem rRp8 {ty : FieldType} {fin : Bool} {X : Option String} (g : gR h r pl) : rF (ixP fv) (wR h r pl N L Q) pl (2, 8, ty, fin, X) = some (.ref (pl + 6)) := by rw [wR_P g]; exact rPp8 (gR_P' g)
theorem rRp9 {ty : FieldType} {fin : Bool} {X : Option String} (g : gR h r pl) : rF (ixP fv) (wR h r pl N L Q) pl (2, 9, ty, fin, X) = some (.ref (pl + 7)) := by rw [wR_P g]; exact rPp9 (gR_P' g)
theorem rRp10 {ty : FieldType} {fin : Bool} {X : Option String} (g : gR h r pl) : rF (ixP fv) (wR h r pl N L Q) pl (2, 10, ty, fin, X) = some (.ref (pl + 8)) := by rw [wR_P g]; exact rPp10 (gR_P' g)
theorem rRp11 {ty : FieldType} {fin : Bool} {X : Option String} (g : gR h r pl) : rF (ixP fv) (wR h r pl N L Q) pl (2, 11, ty, fin, X) = some (.int (Q 0 3)) := by rw [wR_P g]; exact rPp11 (gR_P' g)
theorem rRp12 {ty : FieldType} {fin : Bool} {X : Option String} (g : gR h r pl) : rF (ixP fv) (wR h r pl N L Q) pl (2, 12, ty, fin, X) = some (.ref (pl + 9)) := by rw [wR_P g]; exact rPp12 (gR_P' g)
theorem rRp13 {ty : FieldType} {fin : Bool} {X : Option String} (g : gR h r pl) : rF (ixP fv) (wR h r pl N L Q) pl (2, 13, ty, fin, X) = some (.ref (pl + 10)) := by rw [wR_P g]; exact rPp13 (gR_P' g)
theorem rRp14 {ty : FieldType} {fin : Bool} {X : Option String} (g : gR h r pl) : rF (ixP fv) (wR h r pl N L Q) pl (2, 14, ty, fin, X) = some (.ref (pl + 11)) := by rw [wR_P g]; exact rPp14 (gR_P' g)
theorem rRp15 {ty : FieldType} {fin : Bool} {X : Option String} (g : gR h r pl) : rF (ixP fv) (wR h r pl N L Q) pl (2, 15, ty, fin, X) = some (.int (Q 0 4)) := by rw [wR_P g]; exact rPp15 (gR_P' g)
theorem rRp16 {ty : FieldType} {fin : Bool} {X : Option String} (g : gR h r pl) : rF (ixP fv) (wR h r pl N L Q) pl (2, 16, ty, fin, X) = some (.ref (pl + 12)) := by rw [wR_P g]; exact rPp16 (gR_P' g)
theorem rRp17 {ty : FieldType} {fin : Bool} {X : Option String} (g : gR h r pl) : rF (ixP fv) (wR h r pl N L Q) pl (2, 17, ty, fin, X) = some (.ref (pl + 13)) := by rw [wR_P g]; exact rPp17 (gR_P' g)
theorem rRp18 {ty : FieldType} {fin : Bool} {X : Option String} (g : gR h r pl) : rF (ixP fv) (wR h r pl N L Q) pl (2, 18, ty, fin, X) = some (.ref (pl + 14)) := by rw [wR_P g]; exact rPp18 (gR_P' g)
theorem rRo0 {ty : FieldType} {fin : Bool} {X : Option String} (g : gR h r pl) : rF (ixP fv) (wR h r pl N L Q) (pl + 14) (1, 0, ty, fin, X) = some (.int (Q 0 5)) := by rw [wR_P g]; exact rPo0 (gR_P' g)
theorem rRo1 {ty : FieldType} {fin : Bool} {X : Option String} (g : gR h r pl) : rF (ixP fv) (wR h r pl N L Q) (pl + 14) (1, 1, ty, fin, X) = some (.ref (pl + 15)) := by rw [wR_P g]; exact rPo1 (gR_P' g)
theorem rRo2 {ty : FieldType} {fin : Bool} {X : Option String} (g : gR h r pl) : rF (ixP fv) (wR h r pl N L Q) (pl + 14) (1, 2, ty, fin, X) = some (.ref (pl + 16)) := by rw [wR_P g]; exact rPo2 (gR_P' g)
theorem rRo3 {ty : FieldType} {fin : Bool} {X : Option String} (g : gR h r pl) : rF (ixP fv) (wR h r pl N L Q) (pl + 14) (1, 3, ty, fin, X) = some (.ref (pl + 17)) := by rw [wR_P g]; exact rPo3 (gR_P' g)
theorem rRo4 {ty : FieldType} {fin : Bool} {X : Option String} (g : gR h r pl) : rF (ixP fv) (wR h r pl N L Q) (pl + 14) (1, 4, ty, fin, X) = some (.ref (pl + 18)) := by rw [wR_P g]; exact rPo4 (gR_P' g)
theorem rRo5 {ty : FieldType} {fin : Bool} {X : Option String} (g : gR h r pl) : rF (ixP fv) (wR h r pl N L Q) (pl + 14) (1, 5, ty, fin, X) = some (.ref (pl + 19)) := by rw [wR_P g]; exact rPo5 (gR_P' g)
theorem rRo6 {ty : FieldType} {fin : Bool} {X : Option String} (g : gR h r pl) : rF (ixP fv) (wR h r pl N L Q) (pl + 14) (1, 6, ty, fin, X) = some (.int (Q 0 6)) := by rw [wR_P g]; exact rPo6 (gR_P' g)
theorem rRo7 {ty : FieldType} {fin : Bool} {X : Option String} (g : gR h r pl) : rF (ixP fv) (wR h r pl N L Q) (pl + 14) (1, 7, ty, fin, X) = some (.ref (pl + 20)) := by rw [wR_P g]; exact rPo7 (gR_P' g)
theorem rRo8 {ty : FieldType} {fin : Bool} {X : Option String} (g : gR h r pl) : rF (ixP fv) (wR h r pl N L Q) (pl + 14) (1, 8, ty, fin, X) = some (.ref (pl + 21)) := by rw [wR_P g]; exact rPo8 (gR_P' g)
def st1 (Q : Mem) (a b : Int32) : Mem := sm (sp (sp Q 20 400 (Q 0 6) a) 21 400 (Q 0 6) b) 0 6 (Q 0 6 + 1)
theorem m33 {h : ix_H} {Q : Mem} {a b : Int32} (g : gP h pl) : xe (ixP fv) (d + 1) 33 0 [some (.ref (pl + 14)), some (.int a), some (.int b)] [] (wP h pl Q) = some (.inl none, wP h pl (st1 Q a b)) := by
  simp only [q33_0, q33_1, q33_4, q33_5, q33_8, q33_9, q33_12, q33_13, q33_16, q33_17, q33_20, q33_21, q33_24, q33_25, q33_26, q33_29, q33_30, q33_31, q33_34 (st := []), i10, eq_self, ft0, ft1, b01_ft, k1r, k1i, xG_some, xH_some, xC_v, xC_n, if_true, if_false, not_true_eq_false, not_false_eq_true, ix_st, ix_st2, List.getElem?_cons_succ, List.getElem?_cons_zero, List.set_cons_succ, List.set_cons_zero, Value.category, List.map_cons, List.map_nil, List.sum_cons, List.sum_nil, Nat.reduceAdd, Nat.reduceLeDiff, Nat.reduceEqDiff, Nat.zero_le, reduceCtorEq, ↓reduceIte, eq_self, sm_ne, sm_eq, upd_eq, upd_ne, sp_ne, flm_ne, cpm_ne, ne_eq, rPo6 g, rPo7 g, rPo8 g, wPo6 g, m117 (iP20 g) (oP20 g), pP20 g, m117 (iP21 g) (oP21 g), pP21 g]
  rfl
theorem n33 {a b : Int32} (g : gR h r pl) : xe (ixP fv) (d + 1) 33 0 [some (.ref (pl + 14)), some (.int a), some (.int b)] [] (wR h r pl N L Q) = some (.inl none, wR h r pl N L (st1 Q a b)) := by
  rw [wR_P g, wR_P g]
  exact m33 (gR_P' g)
def ap1 (Q : Mem) (a b c e : Int32) : Mem := sm (sp (sp (sp (sp (sp Q 15 16 (Q 0 5) a) 16 16 (Q 0 5) b) 17 16 (Q 0 5) c) 18 16 (Q 0 5) e) 19 16 (Q 0 5) (Q 0 6)) 0 5 (Q 0 5 + 1)
theorem m34 {h : ix_H} {Q : Mem} {a b c e : Int32} (g : gP h pl) : xe (ixP fv) (d + 1) 34 0 [some (.ref (pl + 14)), some (.int a), some (.int b), some (.int c), some (.int e)] [] (wP h pl Q) = some (.inl none, wP h pl (ap1 Q a b c e)) := by
  simp only [q34_0, q34_1, q34_4, q34_5, q34_8, q34_9, q34_12, q34_13, q34_16, q34_17, q34_20, q34_21, q34_24, q34_25, q34_28, q34_29, q34_32, q34_33, q34_36, q34_37, q34_40, q34_41, q34_44, q34_46, q34_49, q34_50, q34_53, q34_54, q34_57, q34_58, q34_61, q34_64, q34_65, q34_66, q34_69, q34_70, q34_71, q34_74 (st := []), i10, eq_self, ft0, ft1, b01_ft, k1r, k1i, xG_some, xH_some, xC_v, xC_n, if_true, if_false, not_true_eq_false, not_false_eq_true, ix_st, ix_st2, List.getElem?_cons_succ, List.getElem?_cons_zero, List.set_cons_succ, List.set_cons_zero, Value.category, List.map_cons, List.map_nil, List.sum_cons, List.sum_nil, Nat.reduceAdd, Nat.reduceLeDiff, Nat.reduceEqDiff, Nat.zero_le, reduceCtorEq, ↓reduceIte, eq_self, sm_ne, sm_eq, upd_eq, upd_ne, sp_ne, flm_ne, cpm_ne, ne_eq, rPo0 g, rPo1 g, rPo2 g, rPo3 g, rPo4 g, rPo5 g, rPo6 g, wPo0 g, m117 (iP15 g) (oP15 g), pP15 g, m117 (iP16 g) (oP16 g), pP16 g, m117 (iP17 g) (oP17 g), pP17 g, m117 (iP18 g) (oP18 g), pP18 g, m117 (iP19 g) (oP19 g), pP19 g]
  rfl
theorem n34 {a b c e : Int32} (g : gR h r pl) : xe (ixP fv) (d + 1) 34 0 [some (.ref (pl + 14)), some (.int a), some (.int b), some (.int c), some (.int e)] [] (wR h r pl N L Q) = some (.inl none, wR h r pl N L (ap1 Q a b c e)) := by
  rw [wR_P g, wR_P g]
  exact m34 (gR_P' g)
def apC (Q : Mem) (a b c e : Int32) : Mem := sm (sp (sp (sp (sp Q 5 4 (Q 0 2) a) 6 4 (Q 0 2) b) 7 4 (Q 0 2) c) 8 4 (Q 0 2) e) 0 2 (Q 0 2 + 1)
theorem m39 {h : ix_H} {Q : Mem} {a b c e : Int32} (g : gP h pl) : xe (ixP fv) (d + 1) 39 0 [some (.ref pl), some (.int a), some (.int b), some (.int c), some (.int e)] [] (wP h pl Q) = some (.inl none, wP h pl (apC Q a b c e)) := by
  simp only [q39_0, q39_1, q39_4, q39_5, q39_8, q39_9, q39_12, q39_13, q39_16, q39_17, q39_20, q39_21, q39_24, q39_25, q39_28, q39_29, q39_32, q39_33, q39_36, q39_37, q39_40, q39_41, q39_44, q39_46, q39_49, q39_50, q39_51, q39_54, q39_55, q39_56, q39_59 (st := []), i10, eq_self, ft0, ft1, b01_ft, k1r, k1i, xG_some, xH_some, xC_v, xC_n, if_true, if_false, not_true_eq_false, not_false_eq_true, ix_st, ix_st2, List.getElem?_cons_succ, List.getElem?_cons_zero, List.set_cons_succ, List.set_cons_zero, Value.category, List.map_cons, List.map_nil, List.sum_cons, List.sum_nil, Nat.reduceAdd, Nat.reduceLeDiff, Nat.reduceEqDiff, Nat.zero_le, reduceCtorEq, ↓reduceIte, eq_self, sm_ne, sm_eq, upd_eq, upd_ne, sp_ne, flm_ne, cpm_ne, ne_eq, rPp6 g, rPp7 g, rPp8 g, rPp9 g, rPp10 g, wPp6 g, m117 (iP5 g) (oP5 g), pP5 g, m117 (iP6 g) (oP6 g), pP6 g, m117 (iP7 g) (oP7 g), pP7 g, m117 (iP8 g) (oP8 g), pP8 g]
  rfl
theorem n39 {a b c e : Int32} (g : gR h r pl) : xe (ixP fv) (d + 1) 39 0 [some (.ref pl), some (.int a), some (.int b), some (.int c), some (.int e)] [] (wR h r pl N L Q) = some (.inl none, wR h r pl N L (apC Q a b c e)) := by
  rw [wR_P g, wR_P g]
  exact m39 (gR_P' g)
def apK (Q : Mem) (a b c : Int32) : Mem := sm (sp (sp (sp Q 9 3 (Q 0 3) a) 10 3 (Q 0 3) b) 11 3 (Q 0 3) c) 0 3 (Q 0 3 + 1)
theorem m40 {h : ix_H} {Q : Mem} {a b c : Int32} (g : gP h pl) : xe (ixP fv) (d + 1) 40 0 [some (.ref pl), some (.int a), some (.int b), some (.int c)] [] (wP h pl Q) = some (.inl none, wP h pl (apK Q a b c)) := by
  simp only [q40_0, q40_1, q40_4, q40_5, q40_8, q40_9, q40_12, q40_13, q40_16, q40_17, q40_20, q40_21, q40_24, q40_25, q40_28, q40_29, q40_32, q40_33, q40_36, q40_37, q40_38, q40_41, q40_42, q40_43, q40_46 (st := []), i10, eq_self, ft0, ft1, b01_ft, k1r, k1i, xG_some, xH_some, xC_v, xC_n, if_true, if_false, not_true_eq_false, not_false_eq_true, ix_st, ix_st2, List.getElem?_cons_succ, List.getElem?_cons_zero, List.set_cons_succ, List.set_cons_zero, Value.category, List.map_cons, List.map_nil, List.sum_cons, List.sum_nil, Nat.reduceAdd, Nat.reduceLeDiff, Nat.reduceEqDiff, Nat.zero_le, reduceCtorEq, ↓reduceIte, eq_self, sm_ne, sm_eq, upd_eq, upd_ne, sp_ne, flm_ne, cpm_ne, ne_eq, rPp11 g, rPp12 g, rPp13 g, rPp14 g, wPp11 g, m117 (iP9 g) (oP9 g), pP9 g, m117 (iP10 g) (oP10 g), pP10 g, m117 (iP11 g) (oP11 g), pP11 g]
  rfl
theorem n40 {a b c : Int32} (g : gR h r pl) : xe (ixP fv) (d + 1) 40 0 [some (.ref pl), some (.int a), some (.int b), some (.int c)] [] (wR h r pl N L Q) = some (.inl none, wR h r pl N L (apK Q a b c)) := by
  rw [wR_P g, wR_P g]
  exact m40 (gR_P' g)
def apF (Q : Mem) (a b : Int32) : Mem := sm (sp (sp Q 12 3 (Q 0 4) a) 13 3 (Q 0 4) b) 0 4 (Q 0 4 + 1)
theorem m41 {h : ix_H} {Q : Mem} {a b : Int32} (g : gP h pl) : xe (ixP fv) (d + 1) 41 0 [some (.ref pl), some (.int a), some (.int b)] [] (wP h pl Q) = some (.inl none, wP h pl (apF Q a b)) := by
  simp only [q41_0, q41_1, q41_4, q41_5, q41_8, q41_9, q41_12, q41_13, q41_16, q41_17, q41_20, q41_21, q41_24, q41_25, q41_26, q41_29, q41_30, q41_31, q41_34 (st := []), i10, eq_self, ft0, ft1, b01_ft, k1r, k1i, xG_some, xH_some, xC_v, xC_n, if_true, if_false, not_true_eq_false, not_false_eq_true, ix_st, ix_st2, List.getElem?_cons_succ, List.getElem?_cons_zero, List.set_cons_succ, List.set_cons_zero, Value.category, List.map_cons, List.map_nil, List.sum_cons, List.sum_nil, Nat.reduceAdd, Nat.reduceLeDiff, Nat.reduceEqDiff, Nat.zero_le, reduceCtorEq, ↓reduceIte, eq_self, sm_ne, sm_eq, upd_eq, upd_ne, sp_ne, flm_ne, cpm_ne, ne_eq, rPp15 g, rPp16 g, rPp17 g, wPp15 g, m117 (iP12 g) (oP12 g), pP12 g, m117 (iP13 g) (oP13 g), pP13 g]
  rfl
theorem n41 {a b : Int32} (g : gR h r pl) : xe (ixP fv) (d + 1) 41 0 [some (.ref pl), some (.int a), some (.int b)] [] (wR h r pl N L Q) = some (.inl none, wR h r pl N L (apF Q a b)) := by
  rw [wR_P g, wR_P g]
  exact m41 (gR_P' g)
def apB0 (Q : Mem) (a b : Int32) : Mem := sp (sp (sp Q 1 5 (Q 0 0) a) 2 5 (Q 0 0) b) 3 5 (Q 0 0) (Q 0 1)
def apB1 (i : Int32) (Q : Mem) : Mem := sp Q 4 40 (Q 0 1 + i) (Q 0 0)
def apB2 (Q : Mem) (a : Int32) : Mem := sm (sm Q 0 1 (Q 0 1 + a)) 0 0 (sm Q 0 1 (Q 0 1 + a) 0 0 + 1)
def apB (Q : Mem) (a b : Int32) : Mem := apB2 (itI apB1 0 (rng 0 a) (apB0 Q a b)) a
theorem m38 {h : ix_H} {Q : Mem} {a b : Int32} (g : gP h pl) : xe (ixP fv) (d + 1) 38 0 [some (.ref pl), some (.int a), some (.int b), none] [] (wP h pl Q) = some (.inl none, wP h pl (apB Q a b)) := by
  have key := lp0 (X := fun i s => xe (ixP fv) (d + 1) 38 41 [some (.ref pl), some (.int a), some (.int b), some (.int i)] [] (wP h pl s)) (E := fun s => some (.inl none, wP h pl (apB2 s a))) (to := a) (f := apB1) (fun i s hc => by
    simp only [q38_41 (x := i), q38_42, q38_43, q38_46, q38_47, q38_50, q38_51, q38_54, q38_55, q38_56, q38_57, q38_60, q38_63, q38_66, i10, eq_self, ft0, ft1, b01_ft, k1r, k1i, xG_some, xH_some, xC_v, xC_n, if_true, if_false, not_true_eq_false, not_false_eq_true, ix_st, ix_st2, List.getElem?_cons_succ, List.getElem?_cons_zero, List.set_cons_succ, List.set_cons_zero, Value.category, List.map_cons, List.map_nil, List.sum_cons, List.sum_nil, Nat.reduceAdd, Nat.reduceLeDiff, Nat.reduceEqDiff, Nat.zero_le, reduceCtorEq, ↓reduceIte, eq_self, hc, rPp4 g, rPp0 g, rPp5 g, m117 (iP4 g) (oP4 g), pP4 g]
    rfl) (fun i s hc => by
    simp only [q38_41, q38_42, q38_43, q38_69, q38_70, q38_71, q38_74, q38_75, q38_76, q38_79, q38_80, q38_81, q38_84, q38_85, q38_86, q38_89 (st := []), i10, eq_self, ft0, ft1, b01_ft, k1r, k1i, xG_some, xH_some, xC_v, xC_n, if_true, if_false, not_true_eq_false, not_false_eq_true, ix_st, ix_st2, List.getElem?_cons_succ, List.getElem?_cons_zero, List.set_cons_succ, List.set_cons_zero, Value.category, List.map_cons, List.map_nil, List.sum_cons, List.sum_nil, Nat.reduceAdd, Nat.reduceLeDiff, Nat.reduceEqDiff, Nat.zero_le, reduceCtorEq, ↓reduceIte, eq_self, sm_ne, sm_eq, upd_eq, upd_ne, sp_ne, flm_ne, cpm_ne, ne_eq, hc, rPp4 g, rPp0 g, wPp4 g, wPp0 g]
    rfl) 0 (apB0 Q a b)
  simp only [q38_0, q38_1, q38_4, q38_5, q38_8, q38_9, q38_12, q38_13, q38_16, q38_17, q38_20, q38_21, q38_24, q38_25, q38_28, q38_29, q38_32, q38_33, q38_36, q38_39, q38_40, i10, eq_self, ft0, ft1, b01_ft, k1r, k1i, xG_some, xH_some, xC_v, xC_n, if_true, if_false, not_true_eq_false, not_false_eq_true, ix_st, ix_st2, List.getElem?_cons_succ, List.getElem?_cons_zero, List.set_cons_succ, List.set_cons_zero, Value.category, List.map_cons, List.map_nil, List.sum_cons, List.sum_nil, Nat.reduceAdd, Nat.reduceLeDiff, Nat.reduceEqDiff, Nat.zero_le, reduceCtorEq, ↓reduceIte, eq_self, sm_ne, sm_eq, upd_eq, upd_ne, sp_ne, flm_ne, cpm_ne, ne_eq, rPp0 g, rPp1 g, rPp2 g, rPp3 g, rPp4 g, m117 (iP1 g) (oP1 g), pP1 g, m117 (iP2 g) (oP2 g), pP2 g, m117 (iP3 g) (oP3 g), pP3 g]
  exact key
theorem n38 {a b : Int32} (g : gR h r pl) : xe (ixP fv) (d + 1) 38 0 [some (.ref pl), some (.int a), some (.int b), none] [] (wR h r pl N L Q) = some (.inl none, wR h r pl N L (apB Q a b)) := by
  rw [wR_P g, wR_P g]
  exact m38 (gR_P' g)
def clQ (Q : Mem) : Mem := sm (sm (sm (sm (sm (sm (sm Q 0 0 0) 0 1 0) 0 2 0) 0 3 0) 0 4 0) 0 5 0) 0 6 0
theorem m37 {h : ix_H} {Q : Mem} (g : gP h pl) : xe (ixP fv) d 37 0 [some (.ref pl)] [] (wP h pl Q) = some (.inl none, wP h pl (clQ Q)) := by
  simp only [q37_0, q37_1, q37_2, q37_5, q37_6, q37_7, q37_10, q37_11, q37_12, q37_15, q37_16, q37_17, q37_20, q37_21, q37_22, q37_25, q37_26, q37_29, q37_30, q37_33, q37_34, q37_37, q37_38, q37_41 (st := []), i10, eq_self, ft0, ft1, b01_ft, k1r, k1i, xG_some, xH_some, xC_v, xC_n, if_true, if_false, not_true_eq_false, not_false_eq_true, ix_st, ix_st2, List.getElem?_cons_succ, List.getElem?_cons_zero, List.set_cons_succ, List.set_cons_zero, Value.category, List.map_cons, List.map_nil, List.sum_cons, List.sum_nil, Nat.reduceAdd, Nat.reduceLeDiff, Nat.reduceEqDiff, Nat.zero_le, reduceCtorEq, ↓reduceIte, eq_self, rPp18 g, wPp0 g, wPp4 g, wPp6 g, wPp11 g, wPp15 g, wPo0 g, wPo6 g]
  rfl
theorem n37 (g : gR h r pl) : xe (ixP fv) d 37 0 [some (.ref pl)] [] (wR h r pl N L Q) = some (.inl none, wR h r pl N L (clQ Q)) := by
  rw [wR_P g, wR_P g]
  exact m37 (gR_P' g)
end READ
