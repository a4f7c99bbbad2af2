/-! THE LAW: a round; the worst (written by gen996.py). -/
section LAWR6
variable {fv : Value} {d : Nat} {H : ix_H} {b tp rd pl t t2 tb o : Nat} {lea len : Int32} {Q A A' Z Z' : Mem} {s : Nat} {K : Nat → Option (Nat × Nat)} {X : Nat → Nat} {D : Nat → Nat → Nat} {n fb : Nat → Nat} {M M' : Mm} {p c f q m k v j : Nat} {w i x : Int32} {F : Nat → Nat → Int32} {l0 l1 l2 l3 l4 l5 l6 l7 l8 l9 l10 l11 l12 l13 l14 l15 l16 l17 l18 l19 l20 l21 l22 l23 l24 l25 l26 l27 l28 l29 l30 l31 : Option Value} {o15 : Nat}
theorem cnt_m {P : Nat → Bool} : ∀ m, cnt P m ≤ m
  | 0 => Nat.le_refl _
  | m + 1 => by
    have := cnt_m (P := P) m
    rw [cnt_s]
    split <;> omega
theorem st_n (hI : INV Q A M n fb) : nI (n 2) - sGn M n = nI (cnt (stB M) (n 2)) := by
  rw [← (pl_eq hI).2, Int32.add_sub_cancel]
  exact pl_n hI
theorem r17_step (g : HI H b tp rd pl t t2 tb lea len Q A Z s K X D n M fb) (G : isG H o (n 2) 7 F) (ho : t2 + 10 ≤ o) (hF : ∀ p, p < n 2 → ∀ i, i < 7 → F p i = pv Q A' M n p i) (hv : v + 1 < cnt (stB M) (n 2)) : ∃ m17 m18, xe (ixP fv) (d + 10) 0 563 [l0, l1, l2, some (.ref (b)), l4, l5, some (.int (nI (n 2))), l7, l8, some (.ref (o)), l10, l11, some (.int (sGn M n)), l13, l14, some (.ref (o15)), some (.int (nI (v))), l17, l18, l19, l20, l21, l22, l23, l24, l25, l26, l27, l28, l29, l30, l31] [] H = xe (ixP fv) (d + 10) 0 563 [l0, l1, l2, some (.ref (b)), l4, l5, some (.int (nI (n 2))), l7, l8, some (.ref (o)), l10, l11, some (.int (sGn M n)), l13, l14, some (.ref (o15)), some (.int (nI (v + 1))), m17, m18, l19, l20, l21, l22, l23, l24, l25, l26, l27, l28, l29, l30, l31] [] H := by
  obtain ⟨a1, a2, a3, a4, a5, a6⟩ := HW_lt g.1
  have hn := HI_n g
  have hm := cnt_m (P := stB M) (n 2)
  obtain ⟨a, b', ha, hb, w1, w2, w3, w4, w5⟩ := worst_law g.2.1 hv
  have e1 := fun d => hw99 (fv := fv) (d := d) (v := v) g (by omega) (by omega)
  have e2 := fun d => hw99 (fv := fv) (d := d) (v := v + 1) g hv (by omega)
  have ev : nI v + 1 = nI (v + 1) := nI_add v 1
  rw [ev] at w2
  rw [w1] at e1
  rw [w2] at e2
  have q1 := rQ_g (fv := fv) G (by omega) ha (by omega)
  have q2 := rQ_g (fv := fv) G (by omega) hb (by omega)
  have r1 : rA H (o + 1 + a) 3 = some (.int (M 2 a 3)) := (rA_g (j := 3) G ha (by decide) (by decide)).trans (by rw [hF a ha 3 (by decide)]; rfl)
  have r2 : rA H (o + 1 + a) 1 = some (.int (M 2 a 1)) := (rA_g (j := 1) G ha (by decide) (by decide)).trans (by rw [hF a ha 1 (by decide)]; rfl)
  have r3 : rA H (o + 1 + b') 1 = some (.int (M 2 b' 1)) := (rA_g (j := 1) G hb (by decide) (by decide)).trans (by rw [hF b' hb 1 (by decide)]; rfl)
  have c1 : ¬ nI (cnt (stB M) (n 2)) ≤ nI (v + 1) := nI_ge hv (by omega)
  have c2 : ¬ M 2 a 3 = 1 := by rw [w3]; decide
  have es := st_n g.2.1
  refine ⟨some (.int (nI a)), some (.int (nI b')), ?_⟩
  by_cases c3 : M 2 a 1 = M 2 b' 1
  · have c4 := w5 c3
    rw [c3] at r2 w4
    simp only [q0_563 (x := nI v), q0_565, q0_566, q0_567, q0_569, q0_571, q0_572, q0_575, q0_576, q0_578, q0_581, q0_583, q0_584, q0_586, q0_587, q0_588, q0_591, q0_593, q0_595, q0_597, q0_598, q0_599, q0_600, q0_601, q0_604, q0_606, q0_608, q0_609, q0_610, q0_611, q0_613, q0_615, q0_616, q0_617, q0_618, q0_621, q0_623, q0_625, q0_626, q0_627, q0_628, q0_630, q0_632, q0_633, q0_634, q0_635, q0_638, q0_640, q0_642, q0_645, q0_646 (st := []), q0_647, q0_650, i10, eq_self, ft0, ft1, b01_ft, k1r, k1i, xG_some, xH_some, xC_v, xC_n, if_true, if_false, not_true_eq_false, not_false_eq_true, ix_st, ix_st2, List.getElem?_cons_succ, List.getElem?_cons_zero, List.set_cons_succ, List.set_cons_zero, Value.category, List.map_cons, List.map_nil, List.sum_cons, List.sum_nil, Nat.reduceAdd, Nat.reduceLeDiff, Nat.reduceEqDiff, Nat.zero_le, reduceCtorEq, ↓reduceIte, eq_self, xit, es, e1, e2, ev, q1, q2, r1, r2, r3, c1, c2, w4, c4, HI_is g]
  · simp only [q0_563 (x := nI v), q0_565, q0_566, q0_567, q0_569, q0_571, q0_572, q0_575, q0_576, q0_578, q0_581, q0_583, q0_584, q0_586, q0_587, q0_588, q0_591, q0_593, q0_595, q0_597, q0_598, q0_599, q0_600, q0_601, q0_604, q0_606, q0_608, q0_609, q0_610, q0_611, q0_613, q0_615, q0_616, q0_617, q0_618, q0_621, q0_623, q0_625, q0_626, q0_627, q0_628, q0_630, q0_632, q0_633, q0_634, q0_635, q0_638, q0_640, q0_642, q0_645, q0_646 (st := []), q0_647, q0_650, i10, eq_self, ft0, ft1, b01_ft, k1r, k1i, xG_some, xH_some, xC_v, xC_n, if_true, if_false, not_true_eq_false, not_false_eq_true, ix_st, ix_st2, List.getElem?_cons_succ, List.getElem?_cons_zero, List.set_cons_succ, List.set_cons_zero, Value.category, List.map_cons, List.map_nil, List.sum_cons, List.sum_nil, Nat.reduceAdd, Nat.reduceLeDiff, Nat.reduceEqDiff, Nat.zero_le, reduceCtorEq, ↓reduceIte, eq_self, xit, es, e1, e2, ev, q1, q2, r1, r2, r3, c1, c2, w4, c3, HI_is g]
theorem r17_all (g : HI H b tp rd pl t t2 tb lea len Q A Z s K X D n M fb) (G : isG H o (n 2) 7 F) (ho : t2 + 10 ≤ o) (hF : ∀ p, p < n 2 → ∀ i, i < 7 → F p i = pv Q A' M n p i) : ∀ (r v : Nat) (l17 l18 : Option Value), v + r < 1000 → cnt (stB M) (n 2) ≤ v + r + 1 → ∃ v' m17 m18, xe (ixP fv) (d + 10) 0 563 [l0, l1, l2, some (.ref (b)), l4, l5, some (.int (nI (n 2))), l7, l8, some (.ref (o)), l10, l11, some (.int (sGn M n)), l13, l14, some (.ref (o15)), some (.int (nI (v))), l17, l18, l19, l20, l21, l22, l23, l24, l25, l26, l27, l28, l29, l30, l31] [] H = xe (ixP fv) (d + 10) 0 653 [l0, l1, l2, some (.ref (b)), l4, l5, some (.int (nI (n 2))), l7, l8, some (.ref (o)), l10, l11, some (.int (sGn M n)), l13, l14, some (.ref (o15)), some (.int (nI (v'))), m17, m18, l19, l20, l21, l22, l23, l24, l25, l26, l27, l28, l29, l30, l31] [] H := by
  have es := st_n g.2.1
  have stop : ∀ (v : Nat) (l17 l18 : Option Value), v < 1000 → cnt (stB M) (n 2) ≤ v + 1 → xe (ixP fv) (d + 10) 0 563 [l0, l1, l2, some (.ref (b)), l4, l5, some (.int (nI (n 2))), l7, l8, some (.ref (o)), l10, l11, some (.int (sGn M n)), l13, l14, some (.ref (o15)), some (.int (nI (v))), l17, l18, l19, l20, l21, l22, l23, l24, l25, l26, l27, l28, l29, l30, l31] [] H = xe (ixP fv) (d + 10) 0 653 [l0, l1, l2, some (.ref (b)), l4, l5, some (.int (nI (n 2))), l7, l8, some (.ref (o)), l10, l11, some (.int (sGn M n)), l13, l14, some (.ref (o15)), some (.int (nI (v))), l17, l18, l19, l20, l21, l22, l23, l24, l25, l26, l27, l28, l29, l30, l31] [] H := by
    intro v l17 l18 hb h
    have ev : nI v + 1 = nI (v + 1) := nI_add v 1
    have c1 : nI (cnt (stB M) (n 2)) ≤ nI (v + 1) := nI_le h (by omega)
    simp only [q0_563, q0_565, q0_566, q0_567, q0_569, q0_571, q0_572, i10, eq_self, ft0, ft1, b01_ft, k1r, k1i, xG_some, xH_some, xC_v, xC_n, if_true, if_false, not_true_eq_false, not_false_eq_true, ix_st, ix_st2, List.getElem?_cons_succ, List.getElem?_cons_zero, List.set_cons_succ, List.set_cons_zero, Value.category, List.map_cons, List.map_nil, List.sum_cons, List.sum_nil, Nat.reduceAdd, Nat.reduceLeDiff, Nat.reduceEqDiff, Nat.zero_le, reduceCtorEq, ↓reduceIte, eq_self, xit, es, ev, c1]
  intro r
  induction r with
  | zero =>
    intro v l17 l18 hb h
    exact ⟨v, l17, l18, stop v l17 l18 (by omega) (by omega)⟩
  | succ r ih =>
    intro v l17 l18 hb h
    by_cases c : v + 1 < cnt (stB M) (n 2)
    · obtain ⟨m17, m18, e⟩ := r17_step (fv := fv) (d := d) (l0 := l0) (l1 := l1) (l2 := l2) (l4 := l4) (l5 := l5) (l7 := l7) (l8 := l8) (l10 := l10) (l11 := l11) (l13 := l13) (l14 := l14) (l19 := l19) (l20 := l20) (l21 := l21) (l22 := l22) (l23 := l23) (l24 := l24) (l25 := l25) (l26 := l26) (l27 := l27) (l28 := l28) (l29 := l29) (l30 := l30) (l31 := l31) (l17 := l17) (l18 := l18) g G ho hF c
      obtain ⟨v', x17, x18, e2⟩ := ih (v + 1) m17 m18 (by omega) (by omega)
      exact ⟨v', x17, x18, e.trans e2⟩
    · exact ⟨v, l17, l18, stop v l17 l18 (by omega) (by omega)⟩
end LAWR6
