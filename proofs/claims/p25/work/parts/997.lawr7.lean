/-! THE LAW: a round; bays (written by gen997.py). -/
section LAWR7
variable {fv : Value} {d : Nat} {H : ix_H} {b tp rd pl t t2 tb o : Nat} {lea len : Int32} {Q A A' Z Z' : Mem} {s : Nat} {K : Nat → Option (Nat × Nat)} {X : Nat → Nat} {D : Nat → Nat → Nat} {n fb : Nat → Nat} {M M' : Mm} {p c f q m k v j : Nat} {w i x : Int32} {F : Nat → Nat → Int32} {l0 l1 l2 l3 l4 l5 l6 l7 l8 l9 l10 l11 l12 l13 l14 l15 l16 l17 l18 l19 l20 l21 l22 l23 l24 l25 l26 l27 l28 l29 l30 l31 : Option Value} {o15 : Nat}
theorem r18_step (g : HI H b tp rd pl t t2 tb lea len Q A Z s K X D n M fb) (hk : k < n 1) : xe (ixP fv) (d + 10) 0 662 [l0, l1, l2, some (.ref (b)), l4, l5, l6, l7, l8, l9, some (.int (sLf M n (-1))), l11, l12, l13, l14, some (.ref (o15)), some (.int ((itr (fun b s => s + lbL Q A (nI b)) 0 (k) 0))), some (.int ((itr (fun b s => s + b01 (daL Q A (nI b))) 0 (k) 0))), some (.int (nI (k))), l19, l20, l21, l22, l23, l24, l25, l26, l27, l28, l29, l30, l31] [] H = xe (ixP fv) (d + 10) 0 662 [l0, l1, l2, some (.ref (b)), l4, l5, l6, l7, l8, l9, some (.int (sLf M n (-1))), l11, l12, l13, l14, some (.ref (o15)), some (.int ((itr (fun b s => s + lbL Q A (nI b)) 0 (k + 1) 0))), some (.int ((itr (fun b s => s + b01 (daL Q A (nI b))) 0 (k + 1) 0))), some (.int (nI (k + 1))), l19, l20, l21, l22, l23, l24, l25, l26, l27, l28, l29, l30, l31] [] H := by
  have hn := HI_n g
  have e2 := fun d => hw94_2 (fv := fv) (d := d) g
  have e96a := fun d => hw96_3 (fv := fv) (d := d) g hk
  have e96b := fun d => hw96_4 (fv := fv) (d := d) g hk
  have e96c := fun d => hw96_0 (fv := fv) (d := d) g hk
  have c1 : ¬ nI (n 1) ≤ nI k := nI_ge hk (by omega)
  have ek : nI k + 1 = nI (k + 1) := nI_add k 1
  have hd := da_law (Q := Q) (A := A) (b := k) (by omega)
  rw [itr_snoc, itr_snoc, Nat.zero_add]
  generalize itr (fun b s => s + lbL Q A (nI b)) 0 k 0 = v16
  generalize itr (fun b s => s + b01 (daL Q A (nI b))) 0 k 0 = v17
  cases h : daL Q A (nI k) with
  | true =>
    rw [h] at e96b hd
    have e96b : ∀ d, xe (ixP fv) (d + 3) 96 0 [some (.ref b), some (.int (nI k)), some (.int 4)] [] H = some (.inl (some (.int 1)), H) := e96b
    have hd : lbL Q A (nI k) < 40 * byL Q A (nI k) 0 := hd.mp rfl
    have c2 : ¬ 40 * byL Q A (nI k) 0 ≤ lbL Q A (nI k) := Int32.not_le.mpr hd
    have hb : b01 true = 1 := rfl
    simp only [q0_662 (x := nI k), q0_664, q0_665, q0_666, q0_669, q0_672, q0_674, q0_675, q0_677, q0_678, q0_681, q0_682, q0_684, q0_686, q0_687, q0_689, q0_690, q0_693, q0_694, q0_696, q0_697, q0_699, q0_700, q0_703, q0_704, q0_707, q0_708, q0_711, q0_712, q0_713, q0_715, q0_716, q0_719, q0_721, q0_722, q0_724, q0_725, q0_728, q0_729, q0_732, q0_733, q0_736, q0_737, q0_740, q0_741 (st := []), q0_742, q0_745, i10, eq_self, ft0, ft1, b01_ft, k1r, k1i, xG_some, xH_some, xC_v, xC_n, if_true, if_false, not_true_eq_false, not_false_eq_true, ix_st, ix_st2, List.getElem?_cons_succ, List.getElem?_cons_zero, List.set_cons_succ, List.set_cons_zero, Value.category, List.map_cons, List.map_nil, List.sum_cons, List.sum_nil, Nat.reduceAdd, Nat.reduceLeDiff, Nat.reduceEqDiff, Nat.zero_le, reduceCtorEq, ↓reduceIte, eq_self, xit, e2, e96a, e96b, e96c, c1, c2, ek, HI_is g, hb]
  | false =>
    rw [h] at e96b hd
    have e96b : ∀ d, xe (ixP fv) (d + 3) 96 0 [some (.ref b), some (.int (nI k)), some (.int 4)] [] H = some (.inl (some (.int 0)), H) := e96b
    have c2 : 40 * byL Q A (nI k) 0 ≤ lbL Q A (nI k) := Int32.not_lt.mp (fun q => absurd (hd.mpr q) (by decide))
    have hb : b01 false = 0 := rfl
    have c3 : ¬ (0 : Int32) = 1 := by decide
    simp only [q0_662 (x := nI k), q0_664, q0_665, q0_666, q0_669, q0_672, q0_674, q0_675, q0_677, q0_678, q0_681, q0_682, q0_684, q0_686, q0_687, q0_689, q0_690, q0_693, q0_694, q0_696, q0_697, q0_699, q0_700, q0_703, q0_704, q0_707, q0_708, q0_711, q0_712, q0_713, q0_715, q0_716, q0_719, q0_721, q0_722, q0_724, q0_725, q0_728, q0_729, q0_732, q0_733, q0_736, q0_737, q0_740, q0_741 (st := []), q0_742, q0_745, i10, eq_self, ft0, ft1, b01_ft, k1r, k1i, xG_some, xH_some, xC_v, xC_n, if_true, if_false, not_true_eq_false, not_false_eq_true, ix_st, ix_st2, List.getElem?_cons_succ, List.getElem?_cons_zero, List.set_cons_succ, List.set_cons_zero, Value.category, List.map_cons, List.map_nil, List.sum_cons, List.sum_nil, Nat.reduceAdd, Nat.reduceLeDiff, Nat.reduceEqDiff, Nat.zero_le, reduceCtorEq, ↓reduceIte, eq_self, xit, e2, e96a, e96b, e96c, c1, c2, c3, ek, HI_is g, hb]
theorem da_sum (hI : INV Q A M n fb) : (itr (fun b s => s + b01 (daL Q A (nI b))) 0 (n 1) 0) = sDk M n := by
  have n1 := hI.1.1.2.1.1
  rw [← INV_db hI]
  unfold dbL
  rw [hI.1.1.1.1, itI_0 (by omega)]
  refine itr_eq (m := n 1) (fun k s _ => ?_) (by omega)
  unfold dbS
  cases daL Q A (nI k) with
  | true => rfl
  | false => exact Int32.add_zero s
theorem r18_all (g : HI H b tp rd pl t t2 tb lea len Q A Z s K X D n M fb) {m16 m17 m18 : Option Value} {x16 x17 x18 : Int32} : ∃ x16' x17' x18', xe (ixP fv) (d + 10) 0 653 [l0, l1, l2, some (.ref (b)), l4, l5, l6, l7, l8, l9, some (.int (sLf M n (-1))), l11, l12, l13, l14, some (.ref (o15)), some (.int (x16)), some (.int (x17)), some (.int (x18)), l19, l20, l21, l22, l23, l24, l25, l26, l27, l28, l29, l30, l31] [] H = xe (ixP fv) (d + 10) 0 768 [l0, l1, l2, some (.ref (b)), l4, l5, l6, l7, l8, l9, some (.int (sLf M n (-1))), l11, l12, l13, l14, some (.ref (o15)), some (.int (x16')), some (.int (x17')), some (.int (x18')), l19, l20, l21, l22, l23, l24, l25, l26, l27, l28, l29, l30, l31] [] H := by
  have hn := HI_n g
  have s0 : xe (ixP fv) (d + 10) 0 653 [l0, l1, l2, some (.ref (b)), l4, l5, l6, l7, l8, l9, some (.int (sLf M n (-1))), l11, l12, l13, l14, some (.ref (o15)), some (.int (x16)), some (.int (x17)), some (.int (x18)), l19, l20, l21, l22, l23, l24, l25, l26, l27, l28, l29, l30, l31] [] H = xe (ixP fv) (d + 10) 0 662 [l0, l1, l2, some (.ref (b)), l4, l5, l6, l7, l8, l9, some (.int (sLf M n (-1))), l11, l12, l13, l14, some (.ref (o15)), some (.int ((itr (fun b s => s + lbL Q A (nI b)) 0 (0) 0))), some (.int ((itr (fun b s => s + b01 (daL Q A (nI b))) 0 (0) 0))), some (.int (nI (0))), l19, l20, l21, l22, l23, l24, l25, l26, l27, l28, l29, l30, l31] [] H := by
    simp only [q0_653, q0_654, q0_656, q0_657, q0_659, q0_660, i10, eq_self, ft0, ft1, b01_ft, k1r, k1i, xG_some, xH_some, xC_v, xC_n, if_true, if_false, not_true_eq_false, not_false_eq_true, ix_st, ix_st2, List.getElem?_cons_succ, List.getElem?_cons_zero, List.set_cons_succ, List.set_cons_zero, Value.category, List.map_cons, List.map_nil, List.sum_cons, List.sum_nil, Nat.reduceAdd, Nat.reduceLeDiff, Nat.reduceEqDiff, Nat.zero_le, reduceCtorEq, ↓reduceIte, eq_self, xit]
    rfl
  have s1 : ∀ r k, k + r = n 1 → xe (ixP fv) (d + 10) 0 662 [l0, l1, l2, some (.ref (b)), l4, l5, l6, l7, l8, l9, some (.int (sLf M n (-1))), l11, l12, l13, l14, some (.ref (o15)), some (.int ((itr (fun b s => s + lbL Q A (nI b)) 0 (k) 0))), some (.int ((itr (fun b s => s + b01 (daL Q A (nI b))) 0 (k) 0))), some (.int (nI (k))), l19, l20, l21, l22, l23, l24, l25, l26, l27, l28, l29, l30, l31] [] H = xe (ixP fv) (d + 10) 0 662 [l0, l1, l2, some (.ref (b)), l4, l5, l6, l7, l8, l9, some (.int (sLf M n (-1))), l11, l12, l13, l14, some (.ref (o15)), some (.int ((itr (fun b s => s + lbL Q A (nI b)) 0 (n 1) 0))), some (.int ((itr (fun b s => s + b01 (daL Q A (nI b))) 0 (n 1) 0))), some (.int (nI (n 1))), l19, l20, l21, l22, l23, l24, l25, l26, l27, l28, l29, l30, l31] [] H := by
    intro r
    induction r with
    | zero => intro k e; rw [show k = n 1 by omega]
    | succ r ih => intro k e; exact (r18_step g (by omega)).trans (ih (k + 1) (by omega))
  have e2 := fun d => hw94_2 (fv := fv) (d := d) g
  have e12 := fun d => hw94_12 (fv := fv) (d := d) g
  have c1 : nI (n 1) ≤ nI (n 1) := Int32.le_refl _
  have h1 := lb_sum g.2.1
  have h2 := da_sum g.2.1
  refine ⟨sLf M n (-1), sDk M n, nI (n 1), (s0.trans (s1 (n 1) 0 (by omega))).trans ?_⟩
  rw [h1, h2]
  simp only [q0_662, q0_664, q0_665, q0_666, q0_669, q0_748, q0_750, q0_752, q0_755, q0_757, q0_758, q0_760, q0_763, i10, eq_self, ft0, ft1, b01_ft, k1r, k1i, xG_some, xH_some, xC_v, xC_n, if_true, if_false, not_true_eq_false, not_false_eq_true, ix_st, ix_st2, List.getElem?_cons_succ, List.getElem?_cons_zero, List.set_cons_succ, List.set_cons_zero, Value.category, List.map_cons, List.map_nil, List.sum_cons, List.sum_nil, Nat.reduceAdd, Nat.reduceLeDiff, Nat.reduceEqDiff, Nat.zero_le, reduceCtorEq, ↓reduceIte, eq_self, xit, e2, e12, c1, HI_is g]
end LAWR7
