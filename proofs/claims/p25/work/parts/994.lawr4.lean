/-! THE LAW: a round; all cradles (written by gen994.py). -/
section LAWR4
variable {fv : Value} {d : Nat} {H : ix_H} {b tp rd pl t t2 tb o : Nat} {lea len : Int32} {Q A A' Z Z' : Mem} {s : Nat} {K : Nat → Option (Nat × Nat)} {X : Nat → Nat} {D : Nat → Nat → Nat} {n fb : Nat → Nat} {M M' : Mm} {p c f q m k v j : Nat} {w i x : Int32} {F : Nat → Nat → Int32} {l0 l1 l2 l3 l4 l5 l6 l7 l8 l9 l10 l11 l12 l13 l14 l15 l16 l17 l18 l19 l20 l21 l22 l23 l24 l25 l26 l27 l28 l29 l30 l31 : Option Value}
theorem r13_all : ∀ (r c : Nat) (H : ix_H) (A : Mem) (F : Nat → Nat → Int32) (l15 : Option Value), c + r = n 4 → HI H b tp rd pl t t2 tb lea len Q A Z s K X D n M fb → isG H o (n 4) 6 F → t2 + 10 ≤ o → (∀ c', c' < c → ∀ i, i < 6 → F c' i = cv M n c' i) → ∃ H' A' F' l15', xe (ixP fv) (d + 10) 0 331 [l0, l1, l2, some (.ref (b)), l4, l5, some (.int (nI (n 2))), some (.int (nI (n 4))), l8, l9, l10, l11, l12, some (.ref (o)), some (.int (nI (c))), l15, l16, l17, l18, l19, l20, l21, l22, l23, l24, l25, l26, l27, l28, l29, l30, l31] [] H = xe (ixP fv) (d + 10) 0 331 [l0, l1, l2, some (.ref (b)), l4, l5, some (.int (nI (n 2))), some (.int (nI (n 4))), l8, l9, l10, l11, l12, some (.ref (o)), some (.int (nI (n 4))), l15', l16, l17, l18, l19, l20, l21, l22, l23, l24, l25, l26, l27, l28, l29, l30, l31] [] H' ∧ HI H' b tp rd pl t t2 tb lea len Q A' Z s K X D n M fb ∧ eqA A A' ∧ isG H' o (n 4) 6 F' ∧ (∀ c', c' < n 4 → ∀ i, i < 6 → F' c' i = cv M n c' i) ∧ H'.length = H.length ∧ ix_sz H' = ix_sz H ∧ ∀ q, (q ≤ o ∨ o + 1 + n 4 ≤ q) → (q < 98 ∨ t2 + 10 ≤ q) → H'[q]? = H[q]?
  | 0, c, H, A, F, l15, e, g, G, ho, hF => by
    have : c = n 4 := by omega
    subst this
    exact ⟨H, A, F, l15, rfl, g, eqA_r, G, hF, rfl, rfl, fun _ _ _ => rfl⟩
  | r + 1, c, H, A, F, l15, e, g, G, ho, hF => by
    have hc : c < n 4 := by omega
    have hn := HI_n g
    have c1 : ¬ nI (n 4) ≤ nI c := nI_ge hc (by omega)
    have s1 : xe (ixP fv) (d + 10) 0 331 [l0, l1, l2, some (.ref (b)), l4, l5, some (.int (nI (n 2))), some (.int (nI (n 4))), l8, l9, l10, l11, l12, some (.ref (o)), some (.int (nI (c))), l15, l16, l17, l18, l19, l20, l21, l22, l23, l24, l25, l26, l27, l28, l29, l30, l31] [] H = xe (ixP fv) (d + 10) 0 341 [l0, l1, l2, some (.ref (b)), l4, l5, some (.int (nI (n 2))), some (.int (nI (n 4))), l8, l9, l10, l11, l12, some (.ref (o)), some (.int (nI (c))), some (.int (nI 0)), l16, l17, l18, l19, l20, l21, l22, l23, l24, l25, l26, l27, l28, l29, l30, l31] [] H := by
      simp only [q0_331 (x := nI c), q0_333, q0_335, q0_338, q0_339, i10, eq_self, ft0, ft1, b01_ft, k1r, k1i, xG_some, xH_some, xC_v, xC_n, if_true, if_false, not_true_eq_false, not_false_eq_true, ix_st, ix_st2, List.getElem?_cons_succ, List.getElem?_cons_zero, List.set_cons_succ, List.set_cons_zero, Value.category, List.map_cons, List.map_nil, List.sum_cons, List.sum_nil, Nat.reduceAdd, Nat.reduceLeDiff, Nat.reduceEqDiff, Nat.zero_le, reduceCtorEq, ↓reduceIte, eq_self, xit, c1]
      rfl
    obtain ⟨H1, A1, F1, e1, g1, q1, G1, f1, f2, f3, z1, z2, z3⟩ := r13_row (fv := fv) (d := d) (c := c) (l0 := l0) (l1 := l1) (l2 := l2) (l4 := l4) (l5 := l5) (l8 := l8) (l9 := l9) (l10 := l10) (l11 := l11) (l12 := l12) (l16 := l16) (l17 := l17) (l18 := l18) (l19 := l19) (l20 := l20) (l21 := l21) (l22 := l22) (l23 := l23) (l24 := l24) (l25 := l25) (l26 := l26) (l27 := l27) (l28 := l28) (l29 := l29) (l30 := l30) (l31 := l31) (l6 := some (.int (nI (n 2)))) (l7 := some (.int (nI (n 4)))) 6 0 H A F rfl g G ho hc
    have e2 := r13_chk (fv := fv) (d := d) (l0 := l0) (l1 := l1) (l2 := l2) (l4 := l4) (l5 := l5) (l8 := l8) (l9 := l9) (l10 := l10) (l11 := l11) (l12 := l12) (l16 := l16) (l17 := l17) (l18 := l18) (l19 := l19) (l20 := l20) (l21 := l21) (l22 := l22) (l23 := l23) (l24 := l24) (l25 := l25) (l26 := l26) (l27 := l27) (l28 := l28) (l29 := l29) (l30 := l30) (l31 := l31) (l7 := some (.int (nI (n 4)))) g1 G1 ho hc (fun i hi => f3 i (Nat.zero_le _) hi)
    obtain ⟨H2, A2, F2, m15, e3, g3, q3, G3, h3, y1, y2, y3⟩ := r13_all r (c + 1) H1 A1 F1 (some (.int (nI 6))) (by omega) g1 G1 ho (fun c' hc' i hi => by
      by_cases e : c' = c
      · subst e
        exact f3 i (Nat.zero_le _) hi
      · rw [f1 c' e]
        exact hF c' (by omega) i hi)
    exact ⟨H2, A2, F2, m15, s1.trans (e1.trans (e2.trans e3)), g3, eqA_t q1 q3, G3, h3, y1.trans z1, y2.trans z2, fun q hq h98 => (y3 q hq h98).trans (z3 q (by omega) h98)⟩
end LAWR4
