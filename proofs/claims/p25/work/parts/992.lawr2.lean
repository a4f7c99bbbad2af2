/-! THE LAW: a round; all panes (written by gen992.py). -/
section LAWR2
variable {fv : Value} {d : Nat} {H : ix_H} {b tp rd pl t t2 tb o : Nat} {lea len : Int32} {Q A A' Z Z' : Mem} {s : Nat} {K : Nat → Option (Nat × Nat)} {X : Nat → Nat} {D : Nat → Nat → Nat} {n fb : Nat → Nat} {M M' : Mm} {p c f q m k v j : Nat} {w i x : Int32} {F : Nat → Nat → Int32} {l0 l1 l2 l3 l4 l5 l6 l7 l8 l9 l10 l11 l12 l13 l14 l15 l16 l17 l18 l19 l20 l21 l22 l23 l24 l25 l26 l27 l28 l29 l30 l31 : Option Value}
theorem r9_all : ∀ (r p : Nat) (H : ix_H) (F : Nat → Nat → Int32) (l14 l15 : Option Value), p + r = n 2 → HI H b tp rd pl t t2 tb lea len Q A Z s K X D n M fb → isG H o (n 2) 7 F → t2 + 10 ≤ o → (∀ p', p' < p → ∀ i, i < 7 → F p' i = pv Q A M n p' i) → ∃ H' F' l14' l15', xe (ixP fv) (d + 10) 0 127 [l0, l1, l2, some (.ref (b)), l4, l5, some (.int (nI (n 2))), l7, l8, some (.ref (o)), some (.int ((itr (fun k s => s + sLi M k) 0 (p) 0))), some (.int ((itr (fun k s => s + M 2 k 1) 0 (p) 0))), some (.int ((itr (fun k s => s + M 2 k 3) 0 (p) 0))), some (.int (nI (p))), l14, l15, l16, l17, l18, l19, l20, l21, l22, l23, l24, l25, l26, l27, l28, l29, l30, l31] [] H = xe (ixP fv) (d + 10) 0 127 [l0, l1, l2, some (.ref (b)), l4, l5, some (.int (nI (n 2))), l7, l8, some (.ref (o)), some (.int ((itr (fun k s => s + sLi M k) 0 (n 2) 0))), some (.int ((itr (fun k s => s + M 2 k 1) 0 (n 2) 0))), some (.int ((itr (fun k s => s + M 2 k 3) 0 (n 2) 0))), some (.int (nI (n 2))), l14', l15', l16, l17, l18, l19, l20, l21, l22, l23, l24, l25, l26, l27, l28, l29, l30, l31] [] H' ∧ HI H' b tp rd pl t t2 tb lea len Q A Z s K X D n M fb ∧ isG H' o (n 2) 7 F' ∧ (∀ p', p' < n 2 → ∀ i, i < 7 → F' p' i = pv Q A M n p' i) ∧ H'.length = H.length ∧ ix_sz H' = ix_sz H ∧ ∀ q, (q ≤ o ∨ o + 1 + n 2 ≤ q) → H'[q]? = H[q]?
  | 0, p, H, F, l14, l15, e, g, G, ho, hF => by
    have : p = n 2 := by omega
    subst this
    exact ⟨H, F, l14, l15, rfl, g, G, hF, rfl, rfl, fun _ _ => rfl⟩
  | r + 1, p, H, F, l14, l15, e, g, G, ho, hF => by
    have hp : p < n 2 := by omega
    have hn := HI_n g
    have c1 : ¬ nI (n 2) ≤ nI p := nI_ge hp (by omega)
    have s1 : xe (ixP fv) (d + 10) 0 127 [l0, l1, l2, some (.ref (b)), l4, l5, some (.int (nI (n 2))), l7, l8, some (.ref (o)), some (.int ((itr (fun k s => s + sLi M k) 0 (p) 0))), some (.int ((itr (fun k s => s + M 2 k 1) 0 (p) 0))), some (.int ((itr (fun k s => s + M 2 k 3) 0 (p) 0))), some (.int (nI (p))), l14, l15, l16, l17, l18, l19, l20, l21, l22, l23, l24, l25, l26, l27, l28, l29, l30, l31] [] H = xe (ixP fv) (d + 10) 0 137 [l0, l1, l2, some (.ref (b)), l4, l5, some (.int (nI (n 2))), l7, l8, some (.ref (o)), some (.int ((itr (fun k s => s + sLi M k) 0 (p) 0))), some (.int ((itr (fun k s => s + M 2 k 1) 0 (p) 0))), some (.int ((itr (fun k s => s + M 2 k 3) 0 (p) 0))), some (.int (nI (p))), some (.int (nI 0)), l15, l16, l17, l18, l19, l20, l21, l22, l23, l24, l25, l26, l27, l28, l29, l30, l31] [] H := by
      simp only [q0_127 (x := nI p), q0_129, q0_131, q0_134, q0_135, i10, eq_self, ft0, ft1, b01_ft, k1r, k1i, xG_some, xH_some, xC_v, xC_n, if_true, if_false, not_true_eq_false, not_false_eq_true, ix_st, ix_st2, List.getElem?_cons_succ, List.getElem?_cons_zero, List.set_cons_succ, List.set_cons_zero, Value.category, List.map_cons, List.map_nil, List.sum_cons, List.sum_nil, Nat.reduceAdd, Nat.reduceLeDiff, Nat.reduceEqDiff, Nat.zero_le, reduceCtorEq, ↓reduceIte, eq_self, xit, c1]
      rfl
    obtain ⟨H1, F1, e1, g1, G1, f1, f2, f3, z1, z2, z3⟩ := r9_row (fv := fv) (d := d) (p := p) (l0 := l0) (l1 := l1) (l2 := l2) (l4 := l4) (l5 := l5) (l7 := l7) (l8 := l8) (l16 := l16) (l17 := l17) (l18 := l18) (l19 := l19) (l20 := l20) (l21 := l21) (l22 := l22) (l23 := l23) (l24 := l24) (l25 := l25) (l26 := l26) (l27 := l27) (l28 := l28) (l29 := l29) (l30 := l30) (l31 := l31) (l6 := some (.int (nI (n 2)))) (l10 := some (.int ((itr (fun k s => s + sLi M k) 0 (p) 0)))) (l11 := some (.int ((itr (fun k s => s + M 2 k 1) 0 (p) 0)))) (l12 := some (.int ((itr (fun k s => s + M 2 k 3) 0 (p) 0)))) (l15 := l15) 7 0 H F rfl g G ho hp
    obtain ⟨t0, e2⟩ := r9_chk (fv := fv) (d := d) (l0 := l0) (l1 := l1) (l2 := l2) (l4 := l4) (l5 := l5) (l7 := l7) (l8 := l8) (l16 := l16) (l17 := l17) (l18 := l18) (l19 := l19) (l20 := l20) (l21 := l21) (l22 := l22) (l23 := l23) (l24 := l24) (l25 := l25) (l26 := l26) (l27 := l27) (l28 := l28) (l29 := l29) (l30 := l30) (l31 := l31) (l6 := some (.int (nI (n 2)))) (l15 := l15) (v10 := (itr (fun k s => s + sLi M k) 0 (p) 0)) (v11 := (itr (fun k s => s + M 2 k 1) 0 (p) 0)) (v12 := (itr (fun k s => s + M 2 k 3) 0 (p) 0)) g1 G1 ho hp (fun i hi => f3 i (Nat.zero_le _) hi)
    obtain ⟨H2, F2, m14, m15, e3, g3, G3, h3, y1, y2, y3⟩ := r9_all r (p + 1) H1 F1 (some (.ref (o + 1 + p))) (some (.int (nI t0))) (by omega) g1 G1 ho (fun p' hp' i hi => by
      by_cases c : p' = p
      · subst c
        exact f3 i (Nat.zero_le _) hi
      · rw [f1 p' c]
        exact hF p' (by omega) i hi)
    rw [itr_snoc, itr_snoc, itr_snoc, Nat.zero_add] at e3
    exact ⟨H2, F2, m14, m15, s1.trans (e1.trans (e2.trans e3)), g3, G3, h3, y1.trans z1, y2.trans z2, fun q hq => (y3 q hq).trans (z3 q (by omega))⟩
end LAWR2
