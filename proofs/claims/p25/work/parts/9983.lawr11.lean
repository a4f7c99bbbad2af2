/-! THE LAW: a round; until, advise, spare (written by gen9983.py). -/
section LAWR11
variable {fv : Value} {d : Nat} {H : ix_H} {b tp rd pl t t2 tb o : Nat} {lea len : Int32} {Q A A' Z Z' : Mem} {s : Nat} {K : Nat → Option (Nat × Nat)} {X : Nat → Nat} {D : Nat → Nat → Nat} {n fb : Nat → Nat} {M M' : Mm} {p c f q m k v j : Nat} {w i x : Int32} {F : Nat → Nat → Int32} {l0 l1 l2 l3 l4 l5 l6 l7 l8 l9 l10 l11 l12 l13 l14 l15 l16 l17 l18 l19 l20 l21 l22 l23 l24 l25 l26 l27 l28 l29 l30 l31 : Option Value}
theorem r24 (g : HI H b tp rd pl t t2 tb lea len Q A Z s K X D n M fb) : ∃ H' Z' p a c, p < n 2 ∧ a < n 2 ∧ c < n 4 ∧ xe (ixP fv) (d + 10) 0 806 [l0, l1, l2, some (.ref (b)), l4, some (.int (x)), some (.int (nI (n 2))), some (.int (nI (n 4))), l8, l9, l10, l11, l12, l13, l14, l15, l16, l17, l18, l19, some (.ref (o)), l21, l22, l23, l24, l25, l26, l27, l28, l29, l30, l31] [] H = xe (ixP fv) (d + 10) 0 867 [l0, l1, l2, some (.ref (b)), l4, some (.int (x)), some (.int (nI (n 2))), some (.int (nI (n 4))), l8, l9, l10, l11, l12, l13, l14, l15, l16, l17, l18, l19, some (.ref (o)), some (.int (nI p)), some (.int (utV n p M)), some (.int (nI a)), some (.int (nI c)), l25, l26, l27, l28, l29, l30, l31] [] H' ∧ HI H' b tp rd pl t t2 tb lea len Q A Z' s K X D n M fb ∧ FR H H' t2 := by
  have hn := HI_n g
  have h4 := g.2.2.2.2.2.1
  have b1 := blw_lt (x := x >>> (5 &&& 31)) hn.2.2.1
  have b2 := blw_lt (x := x >>> (4 &&& 31)) h4
  have b3 := blw_lt (x := x >>> (6 &&& 31)) (m := 3) (by decide)
  have b4 := blw_lt (x := x >>> (5 &&& 31)) (m := 4) (by decide)
  have e1 := fun h d y => m167 (fv := fv) (d := d) (h := h) (x := y) hn.2.2.1 (by omega)
  have e2 := fun h d y => m167 (fv := fv) (d := d) (h := h) (x := y) h4 (by omega)
  have e3 : ∀ h d y, xe (ixP fv) d 167 0 [some (.int y), some (.int 3)] [] h = some (.inl (some (.int (nI (blw y 3)))), h) := fun h d y => m167 (fv := fv) (d := d) (h := h) (x := y) (m := 3) (by decide) (by decide)
  have e4 : ∀ h d y, xe (ixP fv) d 167 0 [some (.int y), some (.int 4)] [] h = some (.inl (some (.int (nI (blw y 4)))), h) := fun h d y => m167 (fv := fv) (d := d) (h := h) (x := y) (m := 4) (by decide) (by decide)
  have hone : ∀ k : Nat, 1 + nI k = nI (1 + k) := fun k => nI_add 1 k
  obtain ⟨H1, Z1, u1, g1, q1⟩ := hw105 (fv := fv) (d := d + 2) g b1
  obtain ⟨H2, Z2, a, p2, u2, ha, g2, q2⟩ := hw108 (fv := fv) (d := d + 2) (m := 1 + blw (x >>> (6 &&& 31)) 3) g1 b2 (by omega) (by omega)
  obtain ⟨H3, Z3, c, p3, u3, hc, g3, q3⟩ := hw109 (fv := fv) (d := d + 2) (m := 1 + blw (x >>> (5 &&& 31)) 4) g2 (by omega) (by omega)
  have f1 : FR H H1 t2 := by rw [q1]; exact FR_Z g.1
  have f2 : FR H1 H2 t2 := by rw [q2]; exact FR_Z g1.1
  have f3 : FR H2 H3 t2 := by rw [q3]; exact FR_Z g2.1
  refine ⟨H3, Z3, blw (x >>> (5 &&& 31)) (n 2), a, c, b1, ha, hc, ?_, g3, FR_t f1 (FR_t f2 f3)⟩
  simp only [q0_806, q0_808, q0_809, q0_810, q0_812, q0_815, q0_817, q0_818, q0_820, q0_823, q0_825, q0_826, q0_828, q0_829, q0_830, q0_832, q0_835, q0_836, q0_838, q0_840, q0_841, q0_842, q0_845, q0_846, q0_849, q0_851, q0_852, q0_853, q0_855, q0_856, q0_857, q0_858, q0_861, q0_862, q0_865, i10, eq_self, ft0, ft1, b01_ft, k1r, k1i, xG_some, xH_some, xC_v, xC_n, if_true, if_false, not_true_eq_false, not_false_eq_true, ix_st, ix_st2, List.getElem?_cons_succ, List.getElem?_cons_zero, List.set_cons_succ, List.set_cons_zero, Value.category, List.map_cons, List.map_nil, List.sum_cons, List.sum_nil, Nat.reduceAdd, Nat.reduceLeDiff, Nat.reduceEqDiff, Nat.zero_le, reduceCtorEq, ↓reduceIte, eq_self, xit, e1, e2, e3, e4, hone, u1, u2, u3, HI_is g, HI_is g1, HI_is g2]
end LAWR11
