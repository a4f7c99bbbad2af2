/-! THE START: signs of the tape, small methods of the tokens (written by gen999988.py). -/
def isLt (x : Int32) : Bool := decide (97 ≤ x) && decide (x ≤ 122)
def isDg (x : Int32) : Bool := decide (48 ≤ x) && decide (x ≤ 57)
def isWd (x : Int32) : Bool := isLt x || isDg x
def isBl (x : Int32) : Bool := decide (x = 32) || decide (x = 10)
def isSy (x : Int32) : Bool := decide (x = 40) || decide (x = 41) || decide (x = 42) || decide (x = 43) || decide (x = 44) || decide (x = 45) || decide (x = 47) || decide (x = 59) || decide (x = 60) || decide (x = 61) || decide (x = 62) || decide (x = 91) || decide (x = 93)
/-- the sign at a place, -1 behind the text -/
def chr (l : List Int32) (i : Nat) : Int32 := if i < l.length then nI (byI l i) else -1
/-- the tape holds the text -/
def tpW (h : ix_H) (tp : Nat) (T : Nat → Int32) (l : List Int32) : Prop := 98 ≤ tp ∧ h[tp]? = some (.inr (4, [.ref (tp + 1), .int (nI l.length)])) ∧ h[tp + 1]? = some (ia 2000 T) ∧ (∀ i, i < l.length → T i = nI (byI l i)) ∧ l.length ≤ 1900
/-- a word's kind -/
def kow (K : Nat → Int64) (z : Int64) : Int32 := xit id (fun _ => 97) (itx (fun k (_ : Unit) => if lg_cmp (K k) z = 0 then .inl (nI (k + 1)) else .inr ()) 0 30 ())
section LEX0
variable {fv : Value} {d : Nat} {h : ix_H} {r pl tp p n k i j m q : Nat} {N Q : Mem} {L : Jem} {T : Nat → Int32} {x v w : Int32} {l bs : List Int32} {z : Int64}
theorem wR_o (g : gR h r pl) (hq : q < r) : (wR h r pl N L Q)[q]? = h[q]? := by
  unfold wR
  rw [ov_lo hq]
  exact ov_lo (by have := g.2.1; omega)
theorem m85 {H : ix_H} : xe (ixP fv) d 85 0 [some (.int (x))] [] H = some (.inl (some (.int (b01 (isBl x)))), H) := by
  unfold isBl
  by_cases c1 : x = 32
  · rw [decide_eq_true c1, Bool.true_or]
    simp only [q85_0, q85_1, q85_3, q85_6, q85_7, q85_9, q85_12, q85_13, q85_16, q85_17 (st := []), i10, eq_self, ft0, ft1, b01_ft, k1r, k1i, xG_some, xH_some, xC_v, xC_n, if_true, if_false, not_true_eq_false, not_false_eq_true, ix_st, ix_st2, List.getElem?_cons_succ, List.getElem?_cons_zero, List.set_cons_succ, List.set_cons_zero, Value.category, List.map_cons, List.map_nil, List.sum_cons, List.sum_nil, Nat.reduceAdd, Nat.reduceLeDiff, Nat.reduceEqDiff, Nat.zero_le, reduceCtorEq, ↓reduceIte, eq_self, xit, c1]
    rfl
  · rw [decide_eq_false c1, Bool.false_or]
    by_cases c2 : x = 10
    · rw [decide_eq_true c2]
      simp only [q85_0, q85_1, q85_3, q85_6, q85_7, q85_9, q85_12, q85_13, q85_16, q85_17 (st := []), i10, eq_self, ft0, ft1, b01_ft, k1r, k1i, xG_some, xH_some, xC_v, xC_n, if_true, if_false, not_true_eq_false, not_false_eq_true, ix_st, ix_st2, List.getElem?_cons_succ, List.getElem?_cons_zero, List.set_cons_succ, List.set_cons_zero, Value.category, List.map_cons, List.map_nil, List.sum_cons, List.sum_nil, Nat.reduceAdd, Nat.reduceLeDiff, Nat.reduceEqDiff, Nat.zero_le, reduceCtorEq, ↓reduceIte, eq_self, xit, c1, c2]
      split <;> rfl
    · rw [decide_eq_false c2]
      simp only [q85_0, q85_1, q85_3, q85_6, q85_7, q85_9, q85_12, q85_13, q85_16, q85_17 (st := []), i10, eq_self, ft0, ft1, b01_ft, k1r, k1i, xG_some, xH_some, xC_v, xC_n, if_true, if_false, not_true_eq_false, not_false_eq_true, ix_st, ix_st2, List.getElem?_cons_succ, List.getElem?_cons_zero, List.set_cons_succ, List.set_cons_zero, Value.category, List.map_cons, List.map_nil, List.sum_cons, List.sum_nil, Nat.reduceAdd, Nat.reduceLeDiff, Nat.reduceEqDiff, Nat.zero_le, reduceCtorEq, ↓reduceIte, eq_self, xit, c1, c2]
      rfl
theorem m86 {H : ix_H} : xe (ixP fv) d 86 0 [some (.int (x))] [] H = some (.inl (some (.int (b01 (isLt x)))), H) := by
  unfold isLt
  by_cases c1 : x < 97
  · rw [decide_eq_false (Int32.not_le.mpr c1), Bool.false_and]
    simp only [q86_0, q86_1, q86_3, q86_6, q86_7, q86_9, q86_12, q86_13, q86_16, q86_17 (st := []), i10, eq_self, ft0, ft1, b01_ft, k1r, k1i, xG_some, xH_some, xC_v, xC_n, if_true, if_false, not_true_eq_false, not_false_eq_true, ix_st, ix_st2, List.getElem?_cons_succ, List.getElem?_cons_zero, List.set_cons_succ, List.set_cons_zero, Value.category, List.map_cons, List.map_nil, List.sum_cons, List.sum_nil, Nat.reduceAdd, Nat.reduceLeDiff, Nat.reduceEqDiff, Nat.zero_le, reduceCtorEq, ↓reduceIte, eq_self, xit, c1]
    rfl
  · rw [decide_eq_true (Int32.not_lt.mp c1), Bool.true_and]
    by_cases c2 : 122 < x
    · rw [decide_eq_false (Int32.not_le.mpr c2)]
      simp only [q86_0, q86_1, q86_3, q86_6, q86_7, q86_9, q86_12, q86_13, q86_16, q86_17 (st := []), i10, eq_self, ft0, ft1, b01_ft, k1r, k1i, xG_some, xH_some, xC_v, xC_n, if_true, if_false, not_true_eq_false, not_false_eq_true, ix_st, ix_st2, List.getElem?_cons_succ, List.getElem?_cons_zero, List.set_cons_succ, List.set_cons_zero, Value.category, List.map_cons, List.map_nil, List.sum_cons, List.sum_nil, Nat.reduceAdd, Nat.reduceLeDiff, Nat.reduceEqDiff, Nat.zero_le, reduceCtorEq, ↓reduceIte, eq_self, xit, c1, c2]
      rfl
    · rw [decide_eq_true (Int32.not_lt.mp c2)]
      simp only [q86_0, q86_1, q86_3, q86_6, q86_7, q86_9, q86_12, q86_13, q86_16, q86_17 (st := []), i10, eq_self, ft0, ft1, b01_ft, k1r, k1i, xG_some, xH_some, xC_v, xC_n, if_true, if_false, not_true_eq_false, not_false_eq_true, ix_st, ix_st2, List.getElem?_cons_succ, List.getElem?_cons_zero, List.set_cons_succ, List.set_cons_zero, Value.category, List.map_cons, List.map_nil, List.sum_cons, List.sum_nil, Nat.reduceAdd, Nat.reduceLeDiff, Nat.reduceEqDiff, Nat.zero_le, reduceCtorEq, ↓reduceIte, eq_self, xit, c1, c2]
      rfl
theorem m87 {H : ix_H} : xe (ixP fv) d 87 0 [some (.int (x))] [] H = some (.inl (some (.int (b01 (isDg x)))), H) := by
  unfold isDg
  by_cases c1 : x < 48
  · rw [decide_eq_false (Int32.not_le.mpr c1), Bool.false_and]
    simp only [q87_0, q87_1, q87_3, q87_6, q87_7, q87_9, q87_12, q87_13, q87_16, q87_17 (st := []), i10, eq_self, ft0, ft1, b01_ft, k1r, k1i, xG_some, xH_some, xC_v, xC_n, if_true, if_false, not_true_eq_false, not_false_eq_true, ix_st, ix_st2, List.getElem?_cons_succ, List.getElem?_cons_zero, List.set_cons_succ, List.set_cons_zero, Value.category, List.map_cons, List.map_nil, List.sum_cons, List.sum_nil, Nat.reduceAdd, Nat.reduceLeDiff, Nat.reduceEqDiff, Nat.zero_le, reduceCtorEq, ↓reduceIte, eq_self, xit, c1]
    rfl
  · rw [decide_eq_true (Int32.not_lt.mp c1), Bool.true_and]
    by_cases c2 : 57 < x
    · rw [decide_eq_false (Int32.not_le.mpr c2)]
      simp only [q87_0, q87_1, q87_3, q87_6, q87_7, q87_9, q87_12, q87_13, q87_16, q87_17 (st := []), i10, eq_self, ft0, ft1, b01_ft, k1r, k1i, xG_some, xH_some, xC_v, xC_n, if_true, if_false, not_true_eq_false, not_false_eq_true, ix_st, ix_st2, List.getElem?_cons_succ, List.getElem?_cons_zero, List.set_cons_succ, List.set_cons_zero, Value.category, List.map_cons, List.map_nil, List.sum_cons, List.sum_nil, Nat.reduceAdd, Nat.reduceLeDiff, Nat.reduceEqDiff, Nat.zero_le, reduceCtorEq, ↓reduceIte, eq_self, xit, c1, c2]
      rfl
    · rw [decide_eq_true (Int32.not_lt.mp c2)]
      simp only [q87_0, q87_1, q87_3, q87_6, q87_7, q87_9, q87_12, q87_13, q87_16, q87_17 (st := []), i10, eq_self, ft0, ft1, b01_ft, k1r, k1i, xG_some, xH_some, xC_v, xC_n, if_true, if_false, not_true_eq_false, not_false_eq_true, ix_st, ix_st2, List.getElem?_cons_succ, List.getElem?_cons_zero, List.set_cons_succ, List.set_cons_zero, Value.category, List.map_cons, List.map_nil, List.sum_cons, List.sum_nil, Nat.reduceAdd, Nat.reduceLeDiff, Nat.reduceEqDiff, Nat.zero_le, reduceCtorEq, ↓reduceIte, eq_self, xit, c1, c2]
      rfl
theorem m88 {H : ix_H} : xe (ixP fv) (d + 1) 88 0 [some (.int (x))] [] H = some (.inl (some (.int (b01 (isWd x)))), H) := by
  have e1 := fun d => m86 (fv := fv) (d := d) (x := x) (H := H)
  have e2 := fun d => m87 (fv := fv) (d := d) (x := x) (H := H)
  unfold isWd
  cases c1 : isLt x with
  | true =>
    rw [c1] at e1
    simp only [b01_t] at e1
    simp only [q88_0, q88_1, q88_4, q88_7, q88_8, q88_11, q88_14, q88_15, q88_18, q88_19 (st := []), i10, eq_self, ft0, ft1, b01_ft, k1r, k1i, xG_some, xH_some, xC_v, xC_n, if_true, if_false, not_true_eq_false, not_false_eq_true, ix_st, ix_st2, List.getElem?_cons_succ, List.getElem?_cons_zero, List.set_cons_succ, List.set_cons_zero, Value.category, List.map_cons, List.map_nil, List.sum_cons, List.sum_nil, Nat.reduceAdd, Nat.reduceLeDiff, Nat.reduceEqDiff, Nat.zero_le, reduceCtorEq, ↓reduceIte, eq_self, xit, e1]
    rfl
  | false =>
    rw [c1] at e1
    simp only [b01_f] at e1
    cases c2 : isDg x with
    | true =>
      rw [c2] at e2
      simp only [b01_t] at e2
      simp only [q88_0, q88_1, q88_4, q88_7, q88_8, q88_11, q88_14, q88_15, q88_18, q88_19 (st := []), i10, eq_self, ft0, ft1, b01_ft, k1r, k1i, xG_some, xH_some, xC_v, xC_n, if_true, if_false, not_true_eq_false, not_false_eq_true, ix_st, ix_st2, List.getElem?_cons_succ, List.getElem?_cons_zero, List.set_cons_succ, List.set_cons_zero, Value.category, List.map_cons, List.map_nil, List.sum_cons, List.sum_nil, Nat.reduceAdd, Nat.reduceLeDiff, Nat.reduceEqDiff, Nat.zero_le, reduceCtorEq, ↓reduceIte, eq_self, xit, e1, e2]
      rfl
    | false =>
      rw [c2] at e2
      simp only [b01_f] at e2
      simp only [q88_0, q88_1, q88_4, q88_7, q88_8, q88_11, q88_14, q88_15, q88_18, q88_19 (st := []), i10, eq_self, ft0, ft1, b01_ft, k1r, k1i, xG_some, xH_some, xC_v, xC_n, if_true, if_false, not_true_eq_false, not_false_eq_true, ix_st, ix_st2, List.getElem?_cons_succ, List.getElem?_cons_zero, List.set_cons_succ, List.set_cons_zero, Value.category, List.map_cons, List.map_nil, List.sum_cons, List.sum_nil, Nat.reduceAdd, Nat.reduceLeDiff, Nat.reduceEqDiff, Nat.zero_le, reduceCtorEq, ↓reduceIte, eq_self, xit, e1, e2]
      rfl
theorem m89 {H : ix_H} : xe (ixP fv) d 89 0 [some (.int (x))] [] H = some (.inl (some (.int (b01 (isSy x)))), H) := by
  unfold isSy
  have hA : xe (ixP fv) d 89 232 [some (.int (x))] [] H = some (.inl (some (.int (b01 true))), H) := by
    simp only [q89_232, q89_233 (st := []), i10, eq_self, ft0, ft1, b01_ft, k1r, k1i, xG_some, xH_some, xC_v, xC_n, if_true, if_false, not_true_eq_false, not_false_eq_true, ix_st, ix_st2, List.getElem?_cons_succ, List.getElem?_cons_zero, List.set_cons_succ, List.set_cons_zero, Value.category, List.map_cons, List.map_nil, List.sum_cons, List.sum_nil, Nat.reduceAdd, Nat.reduceLeDiff, Nat.reduceEqDiff, Nat.zero_le, reduceCtorEq, ↓reduceIte, eq_self, xit]
    rfl
  have hB : xe (ixP fv) d 89 234 [some (.int (x))] [] H = some (.inl (some (.int (b01 false))), H) := by
    simp only [q89_234, q89_235 (st := []), i10, eq_self, ft0, ft1, b01_ft, k1r, k1i, xG_some, xH_some, xC_v, xC_n, if_true, if_false, not_true_eq_false, not_false_eq_true, ix_st, ix_st2, List.getElem?_cons_succ, List.getElem?_cons_zero, List.set_cons_succ, List.set_cons_zero, Value.category, List.map_cons, List.map_nil, List.sum_cons, List.sum_nil, Nat.reduceAdd, Nat.reduceLeDiff, Nat.reduceEqDiff, Nat.zero_le, reduceCtorEq, ↓reduceIte, eq_self, xit]
    rfl
  rw [q89_0, q89_1, hA, hB]
  by_cases c40 : x = 40
  · rw [if_pos c40, decide_eq_true c40]
    simp only [Bool.true_or]
  rw [if_neg c40, decide_eq_false c40, Bool.false_or]
  by_cases c41 : x = 41
  · rw [if_pos c41, decide_eq_true c41]
    simp only [Bool.true_or]
  rw [if_neg c41, decide_eq_false c41, Bool.false_or]
  by_cases c42 : x = 42
  · rw [if_pos c42, decide_eq_true c42]
    simp only [Bool.true_or]
  rw [if_neg c42, decide_eq_false c42, Bool.false_or]
  by_cases c43 : x = 43
  · rw [if_pos c43, decide_eq_true c43]
    simp only [Bool.true_or]
  rw [if_neg c43, decide_eq_false c43, Bool.false_or]
  by_cases c44 : x = 44
  · rw [if_pos c44, decide_eq_true c44]
    simp only [Bool.true_or]
  rw [if_neg c44, decide_eq_false c44, Bool.false_or]
  by_cases c45 : x = 45
  · rw [if_pos c45, decide_eq_true c45]
    simp only [Bool.true_or]
  rw [if_neg c45, decide_eq_false c45, Bool.false_or]
  by_cases c47 : x = 47
  · rw [if_pos c47, decide_eq_true c47]
    simp only [Bool.true_or]
  rw [if_neg c47, decide_eq_false c47, Bool.false_or]
  by_cases c59 : x = 59
  · rw [if_pos c59, decide_eq_true c59]
    simp only [Bool.true_or]
  rw [if_neg c59, decide_eq_false c59, Bool.false_or]
  by_cases c60 : x = 60
  · rw [if_pos c60, decide_eq_true c60]
    simp only [Bool.true_or]
  rw [if_neg c60, decide_eq_false c60, Bool.false_or]
  by_cases c61 : x = 61
  · rw [if_pos c61, decide_eq_true c61]
    simp only [Bool.true_or]
  rw [if_neg c61, decide_eq_false c61, Bool.false_or]
  by_cases c62 : x = 62
  · rw [if_pos c62, decide_eq_true c62]
    simp only [Bool.true_or]
  rw [if_neg c62, decide_eq_false c62, Bool.false_or]
  by_cases c91 : x = 91
  · rw [if_pos c91, decide_eq_true c91]
    simp only [Bool.true_or]
  rw [if_neg c91, decide_eq_false c91, Bool.false_or]
  by_cases c93 : x = 93
  · rw [if_pos c93, decide_eq_true c93]
  rw [if_neg c93, decide_eq_false c93]
theorem m76 (g : gR h r pl) (t : tpW h tp T l) (ht : tp + 2 ≤ r) (hi : i < 100000) : xe (ixP fv) (d + 1) 76 0 [some (.ref (tp)), some (.int (nI i))] [] (wR h r pl N L Q) = some (.inl (some (.int (chr l i))), (wR h r pl N L Q)) := by
  obtain ⟨t1, t2, t3, t4, t5⟩ := t
  have e1 : (wR h r pl N L Q)[tp]? = _ := (wR_o g (by omega)).trans t2
  have e2 : (wR h r pl N L Q)[tp + 1]? = _ := (wR_o g (by omega)).trans t3
  have f0 : ∀ ty fin Y, rF (ixP fv) (wR h r pl N L Q) tp (4, 0, ty, fin, Y) = some (.ref (tp + 1)) := fun ty fin Y => rF_of e1 t1 rfl
  have f1 : ∀ ty fin Y, rF (ixP fv) (wR h r pl N L Q) tp (4, 1, ty, fin, Y) = some (.int (nI l.length)) := fun ty fin Y => rF_of e1 t1 rfl
  unfold chr
  by_cases c : i < l.length
  · have c1 : ¬ nI l.length ≤ nI i := nI_ge c (by omega)
    have iI : isI (wR h r pl N L Q) (tp + 1) = true := by
      unfold isI
      rw [e2]
      rfl
    have ec : cl (wR h r pl N L Q) (tp + 1) (nI i) = nI (byI l i) := by
      unfold cl
      rw [e2]
      show (if ix_in (nI i) 2000 = true then T (nI i).toNatClampNeg else 0) = _
      rw [if_pos (in_big (by omega) (by decide)), nI_clamp (by omega), t4 i c]
    have e3 := fun d => m115 (fv := fv) (d := d) (i := nI i) iI
    rw [ec] at e3
    rw [if_pos c]
    simp only [q76_0, q76_1, q76_2, q76_5, q76_8, q76_9, q76_12, q76_13, q76_16, q76_19, q76_20 (st := []), i10, eq_self, ft0, ft1, b01_ft, k1r, k1i, xG_some, xH_some, xC_v, xC_n, if_true, if_false, not_true_eq_false, not_false_eq_true, ix_st, ix_st2, List.getElem?_cons_succ, List.getElem?_cons_zero, List.set_cons_succ, List.set_cons_zero, Value.category, List.map_cons, List.map_nil, List.sum_cons, List.sum_nil, Nat.reduceAdd, Nat.reduceLeDiff, Nat.reduceEqDiff, Nat.zero_le, reduceCtorEq, ↓reduceIte, eq_self, xit, f0, f1, c1, e3]
  · have c1 : nI l.length ≤ nI i := nI_le (by omega) (by omega)
    rw [if_neg c]
    simp only [q76_0, q76_1, q76_2, q76_5, q76_8, q76_9, q76_12, q76_13, q76_16, q76_19, q76_20 (st := []), i10, eq_self, ft0, ft1, b01_ft, k1r, k1i, xG_some, xH_some, xC_v, xC_n, if_true, if_false, not_true_eq_false, not_false_eq_true, ix_st, ix_st2, List.getElem?_cons_succ, List.getElem?_cons_zero, List.set_cons_succ, List.set_cons_zero, Value.category, List.map_cons, List.map_nil, List.sum_cons, List.sum_nil, Nat.reduceAdd, Nat.reduceLeDiff, Nat.reduceEqDiff, Nat.zero_le, reduceCtorEq, ↓reduceIte, eq_self, xit, f0, f1, c1]
/-- the kind of a word -/
theorem m83 (g : gR h r pl) : xe (ixP fv) d 83 0 [some (.ref (r + 1)), some (.long z), none, none] [] (wR h r pl N L Q) = some (.inl (some (.int (kow (L 1) z))), (wR h r pl N L Q)) := by
  have f0 := fun ty fin Y => rT0' (fv := fv) (N := N) (L := L) (Q := Q) (ty := ty) (fin := fin) (X := Y) g
  have e1 := lR_2 (fv := fv) (N := N) (L := L) (Q := Q) g
  have e2 := fun k (hk : k < 30) => rJ_of (wR_c2 (N := N) (L := L) (Q := Q) g) (in_big hk (by decide))
  have key := lpNX (J := Unit) (Y := fun _ k (_ : Unit) => xe (ixP fv) d 83 2 [some (.ref (r + 1)), some (.long z), none, some (.int (nI k))] [] (wR h r pl N L Q)) (E := fun a => some (.inl (some (.int a)), (wR h r pl N L Q))) (F := fun _ => some (.inl (some (.int 97)), (wR h r pl N L Q))) (m := 30) (f := fun k (_ : Unit) => if lg_cmp (L 1 k) z = 0 then .inl (nI (k + 1)) else .inr ()) (fun j k u hk => ⟨(), by
    have h1 : ¬ nI 30 ≤ nI k := nI_ge hk (by omega)
    have e3 := e2 k hk
    rw [nI_clamp (by omega)] at e3
    have ek : nI k + 1 = nI (k + 1) := nI_add k 1
    by_cases c1 : lg_cmp (L 1 k) z = 0 <;> simp only [q83_2 (x := nI k), q83_3, q83_4, q83_7, q83_8, q83_11, q83_12, q83_15, q83_16, q83_17, q83_18, q83_19, q83_22, q83_23, q83_24, q83_25 (st := []), q83_26, q83_29, i10, eq_self, ft0, ft1, b01_ft, k1r, k1i, xG_some, xH_some, xC_v, xC_n, if_true, if_false, not_true_eq_false, not_false_eq_true, ix_st, ix_st2, List.getElem?_cons_succ, List.getElem?_cons_zero, List.set_cons_succ, List.set_cons_zero, Value.category, List.map_cons, List.map_nil, List.sum_cons, List.sum_nil, Nat.reduceAdd, Nat.reduceLeDiff, Nat.reduceEqDiff, Nat.zero_le, reduceCtorEq, ↓reduceIte, eq_self, xit, f0, e1, e3, h1, ek, c1]⟩) (fun j u => by
    have h1 : nI 30 ≤ nI 30 := Int32.le_refl _
    simp only [q83_2 (x := nI 30), q83_3, q83_4, q83_7, q83_8, q83_32, q83_34 (st := []), i10, eq_self, ft0, ft1, b01_ft, k1r, k1i, xG_some, xH_some, xC_v, xC_n, if_true, if_false, not_true_eq_false, not_false_eq_true, ix_st, ix_st2, List.getElem?_cons_succ, List.getElem?_cons_zero, List.set_cons_succ, List.set_cons_zero, Value.category, List.map_cons, List.map_nil, List.sum_cons, List.sum_nil, Nat.reduceAdd, Nat.reduceLeDiff, Nat.reduceEqDiff, Nat.zero_le, reduceCtorEq, ↓reduceIte, eq_self, xit, f0, e1, h1]) () ()
  have s0 : xe (ixP fv) d 83 0 [some (.ref (r + 1)), some (.long z), none, none] [] (wR h r pl N L Q) = xe (ixP fv) d 83 2 [some (.ref (r + 1)), some (.long z), none, some (.int (nI 0))] [] (wR h r pl N L Q) := by
    simp only [q83_0, q83_1, i10, eq_self, ft0, ft1, b01_ft, k1r, k1i, xG_some, xH_some, xC_v, xC_n, if_true, if_false, not_true_eq_false, not_false_eq_true, ix_st, ix_st2, List.getElem?_cons_succ, List.getElem?_cons_zero, List.set_cons_succ, List.set_cons_zero, Value.category, List.map_cons, List.map_nil, List.sum_cons, List.sum_nil, Nat.reduceAdd, Nat.reduceLeDiff, Nat.reduceEqDiff, Nat.zero_le, reduceCtorEq, ↓reduceIte, eq_self, xit]
    rfl
  refine s0.trans (key.trans ?_)
  unfold kow
  cases itx (fun k (_ : Unit) => if lg_cmp (L 1 k) z = 0 then .inl (nI (k + 1)) else .inr ()) 0 30 () <;> rfl
end LEX0
