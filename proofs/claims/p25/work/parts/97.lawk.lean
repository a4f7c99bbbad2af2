/-! THE LAW: cell (written by gen97.py). -/
section LAWK
variable {fv : Value} {d : Nat} {h : ix_H} {N k : Nat} {f : Nat → Int32}
/-- the launch's ints, and what follows them -/
def cel (f : Nat → Int32) (N k : Nat) : Int32 := if k < N then f k else 790386105 * (nI k + 3)
theorem m168 (e : h[0]? = some (.inl (0, N, .inl f))) (hN : N ≤ 300) (hk : k < 300) : xe (ixP fv) d 168 0 [some (.ref 0), some (.int (nI k))] [] h = some (.inl (some (.int (cel f N k))), h) := by
  have e1 : rN (ixP fv) h 0 = some (.int (nI N)) := rN_of e (by decide)
  unfold cel
  by_cases c : k < N
  · have c1 : ¬ nI N ≤ nI k := nI_ge c (by omega)
    have e2 : rA h 0 (nI k) = some (.int (f k)) := by
      unfold rA ix_ai
      rw [e]
      have hi : ix_in (nI k) N = true := in_big c (by omega)
      have := nI_clamp (n := k) (by omega)
      simp only [hi, this, and_self, if_true]
    rw [if_pos c]
    simp only [q168_0, q168_1, q168_2, q168_3, q168_6, q168_7, q168_8, q168_9, q168_12, q168_14, q168_15, q168_16, q168_17, q168_18 (st := []), i10, eq_self, ft0, ft1, b01_ft, k1r, k1i, xG_some, xH_some, xC_v, xC_n, if_true, if_false, not_true_eq_false, not_false_eq_true, ix_st, ix_st2, List.getElem?_cons_succ, List.getElem?_cons_zero, List.set_cons_succ, List.set_cons_zero, Value.category, List.map_cons, List.map_nil, List.sum_cons, List.sum_nil, Nat.reduceAdd, Nat.reduceLeDiff, Nat.reduceEqDiff, Nat.zero_le, reduceCtorEq, ↓reduceIte, eq_self, xit, e1, c1, e2]
  · have c1 : nI N ≤ nI k := nI_le (by omega) (by omega)
    rw [if_neg c]
    simp only [q168_0, q168_1, q168_2, q168_3, q168_6, q168_7, q168_8, q168_9, q168_12, q168_14, q168_15, q168_16, q168_17, q168_18 (st := []), i10, eq_self, ft0, ft1, b01_ft, k1r, k1i, xG_some, xH_some, xC_v, xC_n, if_true, if_false, not_true_eq_false, not_false_eq_true, ix_st, ix_st2, List.getElem?_cons_succ, List.getElem?_cons_zero, List.set_cons_succ, List.set_cons_zero, Value.category, List.map_cons, List.map_nil, List.sum_cons, List.sum_nil, Nat.reduceAdd, Nat.reduceLeDiff, Nat.reduceEqDiff, Nat.zero_le, reduceCtorEq, ↓reduceIte, eq_self, xit, e1, c1]
end LAWK
