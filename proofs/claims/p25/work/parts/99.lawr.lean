/-! THE LAW: a round; a row of panes (written by gen99.py). -/
/-- a pane's row as the law reads it -/
def pv (Q A : Mem) (M : Mm) (n : Nat → Nat) (p : Nat) : Nat → Int32
  | 0 => M 2 p 0
  | 1 => M 2 p 1
  | 2 => M 2 p 2
  | 3 => M 2 p 3
  | 4 => sLi M p
  | 5 => caL Q A (nI p)
  | 6 => b01 (sFr M n (nI p))
  | _ => 0
section LAWR
variable {fv : Value} {d : Nat} {H : ix_H} {b tp rd pl t t2 tb o : Nat} {lea len : Int32} {Q A A' Z Z' : Mem} {s : Nat} {K : Nat → Option (Nat × Nat)} {X : Nat → Nat} {D : Nat → Nat → Nat} {n fb : Nat → Nat} {M M' : Mm} {p c f q m k v j : Nat} {w i x : Int32} {F : Nat → Nat → Int32} {l0 l1 l2 l3 l4 l5 l6 l7 l8 l9 l10 l11 l12 l13 l14 l15 l16 l17 l18 l19 l20 l21 l22 l23 l24 l25 l26 l27 l28 l29 l30 l31 : Option Value}
theorem r9_step (g : HI H b tp rd pl t t2 tb lea len Q A Z s K X D n M fb) (G : isG H o (n 2) 7 F) (ho : t2 + 10 ≤ o) (hp : p < n 2) (hj : j < 7) : xe (ixP fv) (d + 10) 0 137 [l0, l1, l2, some (.ref (b)), l4, l5, l6, l7, l8, some (.ref (o)), l10, l11, l12, some (.int (nI p)), some (.int (nI j)), l15, l16, l17, l18, l19, l20, l21, l22, l23, l24, l25, l26, l27, l28, l29, l30, l31] [] H = xe (ixP fv) (d + 10) 0 137 [l0, l1, l2, some (.ref (b)), l4, l5, l6, l7, l8, some (.ref (o)), l10, l11, l12, some (.int (nI p)), some (.int (nI (j + 1))), l15, l16, l17, l18, l19, l20, l21, l22, l23, l24, l25, l26, l27, l28, l29, l30, l31] [] (H.set (o + 1 + p) (.inl (0, 7, .inl (upd (F p) j (pv Q A M n p j))))) := by
  obtain ⟨a1, a2, a3, a4, a5, a6⟩ := HW_lt g.1
  have hn := HI_n g
  have e0 := rQ_g (fv := fv) G (by omega) hp (by omega)
  rcases j with _ | _ | _ | _ | _ | _ | _ | j
  · have e1 : ∀ d, xe (ixP fv) (d + 3) 95 0 [some (.ref b), some (.int (nI p)), some (.int (nI 0))] [] H = some (.inl (some (.int (pv Q A M n p 0))), H) := fun d => hw95_0 (fv := fv) (d := d) g hp
    have e2 := wA_g (fv := fv) (j := 0) (v := pv Q A M n p 0) G (by omega) hp (by decide) (by decide)
    have c1 : ¬ (7 : Int32) ≤ nI 0 := by decide
    have e3 : nI 0 + 1 = nI (0 + 1) := nI_add 0 1
    simp only [q0_137 (x := nI 0), q0_139, q0_141, q0_144, q0_146, q0_148, q0_149, q0_151, q0_152, q0_154, q0_156, q0_159, q0_160, q0_163, i10, eq_self, ft0, ft1, b01_ft, k1r, k1i, xG_some, xH_some, xC_v, xC_n, if_true, if_false, not_true_eq_false, not_false_eq_true, ix_st, ix_st2, List.getElem?_cons_succ, List.getElem?_cons_zero, List.set_cons_succ, List.set_cons_zero, Value.category, List.map_cons, List.map_nil, List.sum_cons, List.sum_nil, Nat.reduceAdd, Nat.reduceLeDiff, Nat.reduceEqDiff, Nat.zero_le, reduceCtorEq, ↓reduceIte, eq_self, xit, e0, e1, e2, e3, c1, HI_is g]
  · have e1 : ∀ d, xe (ixP fv) (d + 3) 95 0 [some (.ref b), some (.int (nI p)), some (.int (nI 1))] [] H = some (.inl (some (.int (pv Q A M n p 1))), H) := fun d => hw95_1 (fv := fv) (d := d) g hp
    have e2 := wA_g (fv := fv) (j := 1) (v := pv Q A M n p 1) G (by omega) hp (by decide) (by decide)
    have c1 : ¬ (7 : Int32) ≤ nI 1 := by decide
    have e3 : nI 1 + 1 = nI (1 + 1) := nI_add 1 1
    simp only [q0_137 (x := nI 1), q0_139, q0_141, q0_144, q0_146, q0_148, q0_149, q0_151, q0_152, q0_154, q0_156, q0_159, q0_160, q0_163, i10, eq_self, ft0, ft1, b01_ft, k1r, k1i, xG_some, xH_some, xC_v, xC_n, if_true, if_false, not_true_eq_false, not_false_eq_true, ix_st, ix_st2, List.getElem?_cons_succ, List.getElem?_cons_zero, List.set_cons_succ, List.set_cons_zero, Value.category, List.map_cons, List.map_nil, List.sum_cons, List.sum_nil, Nat.reduceAdd, Nat.reduceLeDiff, Nat.reduceEqDiff, Nat.zero_le, reduceCtorEq, ↓reduceIte, eq_self, xit, e0, e1, e2, e3, c1, HI_is g]
  · have e1 : ∀ d, xe (ixP fv) (d + 3) 95 0 [some (.ref b), some (.int (nI p)), some (.int (nI 2))] [] H = some (.inl (some (.int (pv Q A M n p 2))), H) := fun d => hw95_2 (fv := fv) (d := d) g hp
    have e2 := wA_g (fv := fv) (j := 2) (v := pv Q A M n p 2) G (by omega) hp (by decide) (by decide)
    have c1 : ¬ (7 : Int32) ≤ nI 2 := by decide
    have e3 : nI 2 + 1 = nI (2 + 1) := nI_add 2 1
    simp only [q0_137 (x := nI 2), q0_139, q0_141, q0_144, q0_146, q0_148, q0_149, q0_151, q0_152, q0_154, q0_156, q0_159, q0_160, q0_163, i10, eq_self, ft0, ft1, b01_ft, k1r, k1i, xG_some, xH_some, xC_v, xC_n, if_true, if_false, not_true_eq_false, not_false_eq_true, ix_st, ix_st2, List.getElem?_cons_succ, List.getElem?_cons_zero, List.set_cons_succ, List.set_cons_zero, Value.category, List.map_cons, List.map_nil, List.sum_cons, List.sum_nil, Nat.reduceAdd, Nat.reduceLeDiff, Nat.reduceEqDiff, Nat.zero_le, reduceCtorEq, ↓reduceIte, eq_self, xit, e0, e1, e2, e3, c1, HI_is g]
  · have e1 : ∀ d, xe (ixP fv) (d + 3) 95 0 [some (.ref b), some (.int (nI p)), some (.int (nI 3))] [] H = some (.inl (some (.int (pv Q A M n p 3))), H) := fun d => hw95_3 (fv := fv) (d := d) g hp
    have e2 := wA_g (fv := fv) (j := 3) (v := pv Q A M n p 3) G (by omega) hp (by decide) (by decide)
    have c1 : ¬ (7 : Int32) ≤ nI 3 := by decide
    have e3 : nI 3 + 1 = nI (3 + 1) := nI_add 3 1
    simp only [q0_137 (x := nI 3), q0_139, q0_141, q0_144, q0_146, q0_148, q0_149, q0_151, q0_152, q0_154, q0_156, q0_159, q0_160, q0_163, i10, eq_self, ft0, ft1, b01_ft, k1r, k1i, xG_some, xH_some, xC_v, xC_n, if_true, if_false, not_true_eq_false, not_false_eq_true, ix_st, ix_st2, List.getElem?_cons_succ, List.getElem?_cons_zero, List.set_cons_succ, List.set_cons_zero, Value.category, List.map_cons, List.map_nil, List.sum_cons, List.sum_nil, Nat.reduceAdd, Nat.reduceLeDiff, Nat.reduceEqDiff, Nat.zero_le, reduceCtorEq, ↓reduceIte, eq_self, xit, e0, e1, e2, e3, c1, HI_is g]
  · have e1 : ∀ d, xe (ixP fv) (d + 3) 95 0 [some (.ref b), some (.int (nI p)), some (.int (nI 4))] [] H = some (.inl (some (.int (pv Q A M n p 4))), H) := fun d => hw95_4 (fv := fv) (d := d) g hp
    have e2 := wA_g (fv := fv) (j := 4) (v := pv Q A M n p 4) G (by omega) hp (by decide) (by decide)
    have c1 : ¬ (7 : Int32) ≤ nI 4 := by decide
    have e3 : nI 4 + 1 = nI (4 + 1) := nI_add 4 1
    simp only [q0_137 (x := nI 4), q0_139, q0_141, q0_144, q0_146, q0_148, q0_149, q0_151, q0_152, q0_154, q0_156, q0_159, q0_160, q0_163, i10, eq_self, ft0, ft1, b01_ft, k1r, k1i, xG_some, xH_some, xC_v, xC_n, if_true, if_false, not_true_eq_false, not_false_eq_true, ix_st, ix_st2, List.getElem?_cons_succ, List.getElem?_cons_zero, List.set_cons_succ, List.set_cons_zero, Value.category, List.map_cons, List.map_nil, List.sum_cons, List.sum_nil, Nat.reduceAdd, Nat.reduceLeDiff, Nat.reduceEqDiff, Nat.zero_le, reduceCtorEq, ↓reduceIte, eq_self, xit, e0, e1, e2, e3, c1, HI_is g]
  · have e1 : ∀ d, xe (ixP fv) (d + 3) 95 0 [some (.ref b), some (.int (nI p)), some (.int (nI 5))] [] H = some (.inl (some (.int (pv Q A M n p 5))), H) := fun d => hw95_5 (fv := fv) (d := d) g hp
    have e2 := wA_g (fv := fv) (j := 5) (v := pv Q A M n p 5) G (by omega) hp (by decide) (by decide)
    have c1 : ¬ (7 : Int32) ≤ nI 5 := by decide
    have e3 : nI 5 + 1 = nI (5 + 1) := nI_add 5 1
    simp only [q0_137 (x := nI 5), q0_139, q0_141, q0_144, q0_146, q0_148, q0_149, q0_151, q0_152, q0_154, q0_156, q0_159, q0_160, q0_163, i10, eq_self, ft0, ft1, b01_ft, k1r, k1i, xG_some, xH_some, xC_v, xC_n, if_true, if_false, not_true_eq_false, not_false_eq_true, ix_st, ix_st2, List.getElem?_cons_succ, List.getElem?_cons_zero, List.set_cons_succ, List.set_cons_zero, Value.category, List.map_cons, List.map_nil, List.sum_cons, List.sum_nil, Nat.reduceAdd, Nat.reduceLeDiff, Nat.reduceEqDiff, Nat.zero_le, reduceCtorEq, ↓reduceIte, eq_self, xit, e0, e1, e2, e3, c1, HI_is g]
  · have e1 : ∀ d, xe (ixP fv) (d + 3) 95 0 [some (.ref b), some (.int (nI p)), some (.int (nI 6))] [] H = some (.inl (some (.int (pv Q A M n p 6))), H) := fun d => hw95_6 (fv := fv) (d := d) g hp
    have e2 := wA_g (fv := fv) (j := 6) (v := pv Q A M n p 6) G (by omega) hp (by decide) (by decide)
    have c1 : ¬ (7 : Int32) ≤ nI 6 := by decide
    have e3 : nI 6 + 1 = nI (6 + 1) := nI_add 6 1
    simp only [q0_137 (x := nI 6), q0_139, q0_141, q0_144, q0_146, q0_148, q0_149, q0_151, q0_152, q0_154, q0_156, q0_159, q0_160, q0_163, i10, eq_self, ft0, ft1, b01_ft, k1r, k1i, xG_some, xH_some, xC_v, xC_n, if_true, if_false, not_true_eq_false, not_false_eq_true, ix_st, ix_st2, List.getElem?_cons_succ, List.getElem?_cons_zero, List.set_cons_succ, List.set_cons_zero, Value.category, List.map_cons, List.map_nil, List.sum_cons, List.sum_nil, Nat.reduceAdd, Nat.reduceLeDiff, Nat.reduceEqDiff, Nat.zero_le, reduceCtorEq, ↓reduceIte, eq_self, xit, e0, e1, e2, e3, c1, HI_is g]
  · omega
theorem r9_row : ∀ (r j : Nat) (H : ix_H) (F : Nat → Nat → Int32), j + r = 7 → HI H b tp rd pl t t2 tb lea len Q A Z s K X D n M fb → isG H o (n 2) 7 F → t2 + 10 ≤ o → p < n 2 → ∃ H' F', xe (ixP fv) (d + 10) 0 137 [l0, l1, l2, some (.ref (b)), l4, l5, l6, l7, l8, some (.ref (o)), l10, l11, l12, some (.int (nI p)), some (.int (nI j)), l15, l16, l17, l18, l19, l20, l21, l22, l23, l24, l25, l26, l27, l28, l29, l30, l31] [] H = xe (ixP fv) (d + 10) 0 137 [l0, l1, l2, some (.ref (b)), l4, l5, l6, l7, l8, some (.ref (o)), l10, l11, l12, some (.int (nI p)), some (.int (nI 7)), l15, l16, l17, l18, l19, l20, l21, l22, l23, l24, l25, l26, l27, l28, l29, l30, l31] [] H' ∧ HI H' b tp rd pl t t2 tb lea len Q A Z s K X D n M fb ∧ isG H' o (n 2) 7 F' ∧ (∀ p', p' ≠ p → F' p' = F p') ∧ (∀ i, i < j → F' p i = F p i) ∧ (∀ i, j ≤ i → i < 7 → F' p i = pv Q A M n p i) ∧ H'.length = H.length ∧ ix_sz H' = ix_sz H ∧ ∀ q, q ≠ o + 1 + p → H'[q]? = H[q]?
  | 0, j, H, F, e, g, G, ho, hp => by
    have : j = 7 := by omega
    subst this
    exact ⟨H, F, rfl, g, G, fun _ _ => rfl, fun _ _ => rfl, fun i h1 h2 => by omega, rfl, rfl, fun _ _ => rfl⟩
  | r + 1, j, H, F, e, g, G, ho, hp => by
    have h := r9_step (fv := fv) (d := d) (j := j) (l0 := l0) (l1 := l1) (l2 := l2) (l4 := l4) (l5 := l5) (l6 := l6) (l7 := l7) (l8 := l8) (l10 := l10) (l11 := l11) (l12 := l12) (l15 := l15) (l16 := l16) (l17 := l17) (l18 := l18) (l19 := l19) (l20 := l20) (l21 := l21) (l22 := l22) (l23 := l23) (l24 := l24) (l25 := l25) (l26 := l26) (l27 := l27) (l28 := l28) (l29 := l29) (l30 := l30) (l31 := l31) g G ho hp (by omega)
    obtain ⟨H', F', e1, g1, G1, f1, f2, f3, z1, z2, z3⟩ := r9_row r (j + 1) _ _ (by omega) (HI_set g (by omega)) (isG_set (j := j) (v := pv Q A M n p j) G hp) ho hp
    refine ⟨H', F', h.trans e1, g1, G1, fun p' hne => (f1 p' hne).trans (if_neg hne), fun i hi => ?_, fun i h1 h2 => ?_, z1.trans List.length_set, z2.trans (set_sz (G.2 p hp) rfl), fun q hq => (z3 q hq).trans (List.getElem?_set_ne (fun e => hq e.symm))⟩
    · rw [f2 i (by omega)]
      show upg F p j _ p i = _
      unfold upg
      rw [if_pos rfl, upd_ne (by omega)]
    · by_cases c : i = j
      · subst c
        rw [f2 i (by omega)]
        show upg F p i _ p i = _
        unfold upg
        rw [if_pos rfl, upd_eq]
      · exact f3 i (by omega) h2
end LAWR
