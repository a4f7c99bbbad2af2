/-! THE LAW: a round; counts, the mean (written by gen995.py). -/
section LAWR5
variable {fv : Value} {d : Nat} {H : ix_H} {b tp rd pl t t2 tb o : Nat} {lea len : Int32} {Q A A' Z Z' : Mem} {s : Nat} {K : Nat → Option (Nat × Nat)} {X : Nat → Nat} {D : Nat → Nat → Nat} {n fb : Nat → Nat} {M M' : Mm} {p c f q m k v j : Nat} {w i x : Int32} {F : Nat → Nat → Int32} {l0 l1 l2 l3 l4 l5 l6 l7 l8 l9 l10 l11 l12 l13 l14 l15 l16 l17 l18 l19 l20 l21 l22 l23 l24 l25 l26 l27 l28 l29 l30 l31 : Option Value}
theorem r16_cnt (g : HI H b tp rd pl t t2 tb lea len Q A Z s K X D n M fb) : xe (ixP fv) (d + 10) 0 496 [l0, l1, l2, some (.ref (b)), l4, l5, some (.int (nI (n 2))), l7, l8, l9, some (.int (sLf M n (-1))), some (.int (sDi M n)), some (.int (sGn M n)), l13, l14, l15, l16, l17, l18, l19, l20, l21, l22, l23, l24, l25, l26, l27, l28, l29, l30, l31] [] H = xe (ixP fv) (d + 10) 0 560 [l0, l1, l2, some (.ref (b)), l4, l5, some (.int (nI (n 2))), l7, l8, l9, some (.int (sLf M n (-1))), some (.int (sDi M n)), some (.int (sGn M n)), l13, l14, l15, l16, l17, l18, l19, l20, l21, l22, l23, l24, l25, l26, l27, l28, l29, l30, l31] [] H := by
  have e8 := fun d => hw94_8 (fv := fv) (d := d) g
  have e9 := fun d => hw94_9 (fv := fv) (d := d) g
  have e10 := fun d => hw94_10 (fv := fv) (d := d) g
  have em := fun d => hw110 (fv := fv) (d := d) g
  obtain ⟨m1, m2, m3⟩ := me_law g.2.1
  by_cases c : sGn M n = nI (n 2)
  · rw [m2 c] at m1 em
    simp only [q0_496, q0_497, q0_499, q0_502, q0_504, q0_507, q0_508, q0_510, q0_513, q0_515, q0_518, q0_519, q0_521, q0_524, q0_526, q0_529, q0_530, q0_533, q0_535, q0_537, q0_540, q0_541, q0_544, q0_546, q0_547, q0_549, q0_551, q0_552, q0_554, q0_555, i10, eq_self, ft0, ft1, b01_ft, k1r, k1i, xG_some, xH_some, xC_v, xC_n, if_true, if_false, not_true_eq_false, not_false_eq_true, ix_st, ix_st2, List.getElem?_cons_succ, List.getElem?_cons_zero, List.set_cons_succ, List.set_cons_zero, Value.category, List.map_cons, List.map_nil, List.sum_cons, List.sum_nil, Nat.reduceAdd, Nat.reduceLeDiff, Nat.reduceEqDiff, Nat.zero_le, reduceCtorEq, ↓reduceIte, eq_self, xit, e8, e9, e10, em, HI_is g, c, m1]
  · obtain ⟨m4, m5⟩ := m3 c
    rw [m4] at m1 em
    simp only [q0_496, q0_497, q0_499, q0_502, q0_504, q0_507, q0_508, q0_510, q0_513, q0_515, q0_518, q0_519, q0_521, q0_524, q0_526, q0_529, q0_530, q0_533, q0_535, q0_537, q0_540, q0_541, q0_544, q0_546, q0_547, q0_549, q0_551, q0_552, q0_554, q0_555, q0_553 m5, i10, eq_self, ft0, ft1, b01_ft, k1r, k1i, xG_some, xH_some, xC_v, xC_n, if_true, if_false, not_true_eq_false, not_false_eq_true, ix_st, ix_st2, List.getElem?_cons_succ, List.getElem?_cons_zero, List.set_cons_succ, List.set_cons_zero, Value.category, List.map_cons, List.map_nil, List.sum_cons, List.sum_nil, Nat.reduceAdd, Nat.reduceLeDiff, Nat.reduceEqDiff, Nat.zero_le, reduceCtorEq, ↓reduceIte, eq_self, xit, e8, e9, e10, em, HI_is g, c, m1]
end LAWR5
