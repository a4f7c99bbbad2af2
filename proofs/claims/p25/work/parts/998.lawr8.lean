/-! THE LAW: a round; flocks read (written by gen998.py). -/
section LAWR8
variable {fv : Value} {d : Nat} {H : ix_H} {b tp rd pl t t2 tb o : Nat} {lea len : Int32} {Q A A' Z Z' : Mem} {s : Nat} {K : Nat → Option (Nat × Nat)} {X : Nat → Nat} {D : Nat → Nat → Nat} {n fb : Nat → Nat} {M M' : Mm} {p c f q m k v j : Nat} {w i x : Int32} {F : Nat → Nat → Int32} {l0 l1 l2 l3 l4 l5 l6 l7 l8 l9 l10 l11 l12 l13 l14 l15 l16 l17 l18 l19 l20 l21 l22 l23 l24 l25 l26 l27 l28 l29 l30 l31 : Option Value} {o14 o15 : Nat} {f14 f15 : Nat → Int32}
theorem r14_step (g : HI H b tp rd pl t t2 tb lea len Q A Z s K X D n M fb) (h14 : H[o14]? = some (.inl (0, n 5, .inl f14))) (h15 : H[o15]? = some (.inl (0, n 5, .inl f15))) (w14 : t2 + 10 ≤ o14) (w15 : t2 + 10 ≤ o15) (hne : o14 ≠ o15) (hq : q < n 5) : xe (ixP fv) (d + 10) 0 459 [l0, l1, l2, some (.ref (b)), l4, l5, l6, l7, some (.int (nI (n 5))), l9, l10, l11, l12, l13, some (.ref (o14)), some (.ref (o15)), some (.int (nI (q))), l17, l18, l19, l20, l21, l22, l23, l24, l25, l26, l27, l28, l29, l30, l31] [] H = xe (ixP fv) (d + 10) 0 459 [l0, l1, l2, some (.ref (b)), l4, l5, l6, l7, some (.int (nI (n 5))), l9, l10, l11, l12, l13, some (.ref (o14)), some (.ref (o15)), some (.int (nI (q + 1))), l17, l18, l19, l20, l21, l22, l23, l24, l25, l26, l27, l28, l29, l30, l31] [] ((H.set o14 (.inl (0, n 5, .inl (upd f14 q (M 5 q 0))))).set o15 (.inl (0, n 5, .inl (upd f15 q (M 5 q 3))))) := by
  obtain ⟨a1, a2, a3, a4, a5, a6⟩ := HW_lt g.1
  have hn := HI_n g
  have g1 := HI_set (x := (.inl (0, n 5, .inl (upd f14 q (M 5 q 0))))) g w14
  have e1 := fun d => hw98_0 (fv := fv) (d := d) g hq
  have e2 := fun d => hw98_3 (fv := fv) (d := d) g1 hq
  have k1 : wA (ixP fv) H o14 (nI q) (M 5 q 0) = some (H.set o14 (.inl (0, n 5, .inl (upd f14 q (M 5 q 0))))) := by
    rw [wA_of h14 (by omega) (in_big hq (by omega)), nI_clamp (by omega)]
  have h15' : (H.set o14 (.inl (0, n 5, .inl (upd f14 q (M 5 q 0)))))[o15]? = some (.inl (0, n 5, .inl f15)) := by
    rw [List.getElem?_set_ne hne]; exact h15
  have k2 : wA (ixP fv) (H.set o14 (.inl (0, n 5, .inl (upd f14 q (M 5 q 0))))) o15 (nI q) (M 5 q 3) = some ((H.set o14 (.inl (0, n 5, .inl (upd f14 q (M 5 q 0))))).set o15 (.inl (0, n 5, .inl (upd f15 q (M 5 q 3))))) := by
    rw [wA_of h15' (by omega) (in_big hq (by omega)), nI_clamp (by omega)]
  have c1 : ¬ nI (n 5) ≤ nI q := nI_ge hq (by omega)
  have eq : nI q + 1 = nI (q + 1) := nI_add q 1
  simp only [q0_459 (x := nI q), q0_461, q0_463, q0_466, q0_468, q0_470, q0_471, q0_473, q0_474, q0_477, q0_478, q0_480, q0_482, q0_483, q0_485, q0_486, q0_489, q0_490, q0_493, i10, eq_self, ft0, ft1, b01_ft, k1r, k1i, xG_some, xH_some, xC_v, xC_n, if_true, if_false, not_true_eq_false, not_false_eq_true, ix_st, ix_st2, List.getElem?_cons_succ, List.getElem?_cons_zero, List.set_cons_succ, List.set_cons_zero, Value.category, List.map_cons, List.map_nil, List.sum_cons, List.sum_nil, Nat.reduceAdd, Nat.reduceLeDiff, Nat.reduceEqDiff, Nat.zero_le, reduceCtorEq, ↓reduceIte, eq_self, xit, e1, e2, k1, k2, c1, eq, HI_is g, HI_is g1]
theorem r14_all : ∀ (r q : Nat) (H : ix_H) (f14 f15 : Nat → Int32), q + r = n 5 → HI H b tp rd pl t t2 tb lea len Q A Z s K X D n M fb → H[o14]? = some (.inl (0, n 5, .inl f14)) → H[o15]? = some (.inl (0, n 5, .inl f15)) → t2 + 10 ≤ o14 → t2 + 10 ≤ o15 → o14 ≠ o15 → (∀ i, i < q → f14 i = M 5 i 0 ∧ f15 i = M 5 i 3) → ∃ H' f14' f15', xe (ixP fv) (d + 10) 0 459 [l0, l1, l2, some (.ref (b)), l4, l5, l6, l7, some (.int (nI (n 5))), l9, l10, l11, l12, l13, some (.ref (o14)), some (.ref (o15)), some (.int (nI (q))), l17, l18, l19, l20, l21, l22, l23, l24, l25, l26, l27, l28, l29, l30, l31] [] H = xe (ixP fv) (d + 10) 0 459 [l0, l1, l2, some (.ref (b)), l4, l5, l6, l7, some (.int (nI (n 5))), l9, l10, l11, l12, l13, some (.ref (o14)), some (.ref (o15)), some (.int (nI (n 5))), l17, l18, l19, l20, l21, l22, l23, l24, l25, l26, l27, l28, l29, l30, l31] [] H' ∧ HI H' b tp rd pl t t2 tb lea len Q A Z s K X D n M fb ∧ H'[o14]? = some (.inl (0, n 5, .inl f14')) ∧ H'[o15]? = some (.inl (0, n 5, .inl f15')) ∧ (∀ i, i < n 5 → f14' i = M 5 i 0 ∧ f15' i = M 5 i 3) ∧ H'.length = H.length ∧ ix_sz H' = ix_sz H ∧ ∀ q, q ≠ o14 → q ≠ o15 → H'[q]? = H[q]?
  | 0, q, H, f14, f15, e, g, h14, h15, w14, w15, hne, hf => by
    have : q = n 5 := by omega
    subst this
    exact ⟨H, f14, f15, rfl, g, h14, h15, hf, rfl, rfl, fun _ _ _ => rfl⟩
  | r + 1, q, H, f14, f15, e, g, h14, h15, w14, w15, hne, hf => by
    have s1 := r14_step (fv := fv) (d := d) (q := q) (l0 := l0) (l1 := l1) (l2 := l2) (l4 := l4) (l5 := l5) (l6 := l6) (l7 := l7) (l9 := l9) (l10 := l10) (l11 := l11) (l12 := l12) (l13 := l13) (l17 := l17) (l18 := l18) (l19 := l19) (l20 := l20) (l21 := l21) (l22 := l22) (l23 := l23) (l24 := l24) (l25 := l25) (l26 := l26) (l27 := l27) (l28 := l28) (l29 := l29) (l30 := l30) (l31 := l31) g h14 h15 w14 w15 hne (by omega)
    have h15' : (H.set o14 (.inl (0, n 5, .inl (upd f14 q (M 5 q 0)))))[o15]? = some (.inl (0, n 5, .inl f15)) := by
      rw [List.getElem?_set_ne hne]; exact h15
    have z1 : ((H.set o14 (.inl (0, n 5, .inl (upd f14 q (M 5 q 0))))).set o15 (.inl (0, n 5, .inl (upd f15 q (M 5 q 3))))).length = H.length := by rw [List.length_set, List.length_set]
    have z2 : ix_sz ((H.set o14 (.inl (0, n 5, .inl (upd f14 q (M 5 q 0))))).set o15 (.inl (0, n 5, .inl (upd f15 q (M 5 q 3))))) = ix_sz H := by
      rw [ix_sz_set _ o15 (.inl (0, n 5, .inl f15)) (.inl (0, n 5, .inl (upd f15 q (M 5 q 3)))) h15' rfl, ix_sz_set _ o14 (.inl (0, n 5, .inl f14)) (.inl (0, n 5, .inl (upd f14 q (M 5 q 0)))) h14 rfl]
    have k14 : ((H.set o14 (.inl (0, n 5, .inl (upd f14 q (M 5 q 0))))).set o15 (.inl (0, n 5, .inl (upd f15 q (M 5 q 3)))))[o14]? = some (.inl (0, n 5, .inl (upd f14 q (M 5 q 0)))) := by
      rw [List.getElem?_set_ne (fun e => hne e.symm)]
      exact get_set h14
    have k15 : ((H.set o14 (.inl (0, n 5, .inl (upd f14 q (M 5 q 0))))).set o15 (.inl (0, n 5, .inl (upd f15 q (M 5 q 3)))))[o15]? = some (.inl (0, n 5, .inl (upd f15 q (M 5 q 3)))) := get_set h15'
    obtain ⟨H', x14, x15, e1, g1, y14, y15, y, y1, y2, y3⟩ := r14_all r (q + 1) _ _ _ (by omega) (HI_set (HI_set g w14) w15) k14 k15 w14 w15 hne (fun i hi => by
      by_cases c : i = q
      · subst c
        rw [upd_eq, upd_eq]
        exact ⟨rfl, rfl⟩
      · rw [upd_ne c, upd_ne c]
        exact hf i (by omega))
    refine ⟨H', x14, x15, s1.trans e1, g1, y14, y15, y, y1.trans z1, y2.trans z2, fun p h1 h2 => (y3 p h1 h2).trans ?_⟩
    rw [List.getElem?_set_ne (fun e => h2 e.symm), List.getElem?_set_ne (fun e => h1 e.symm)]
end LAWR8
