/-! THE LAW: a round; what is foreseen (written by gen9981.py). -/
def f20 (M : Mm) (n : Nat → Nat) : Nat → Int32
  | 0 => (sPa M n).1
  | 1 => sLf (sPs M n) n (-1)
  | 2 => sDi (sPs M n) n
  | 3 => sDk (sPs M n) n
  | _ => 0
section LAWR9
variable {fv : Value} {d : Nat} {H : ix_H} {b tp rd pl t t2 tb o : Nat} {lea len : Int32} {Q A A' Z Z' : Mem} {s : Nat} {K : Nat → Option (Nat × Nat)} {X : Nat → Nat} {D : Nat → Nat → Nat} {n fb : Nat → Nat} {M M' : Mm} {p c f q m k v j : Nat} {w i x : Int32} {F : Nat → Nat → Int32} {l0 l1 l2 l3 l4 l5 l6 l7 l8 l9 l10 l11 l12 l13 l14 l15 l16 l17 l18 l19 l20 l21 l22 l23 l24 l25 l26 l27 l28 l29 l30 l31 : Option Value} {f : Nat → Int32}
theorem r20_step (g : HI H b tp rd pl t t2 tb lea len Q A Z s K X D n M fb) (hr : H[o]? = some (.inl (0, 4, .inl f))) (ho : t2 + 10 ≤ o) (hk : k < 4) : ∃ H1 Z1, HI H1 b tp rd pl t t2 tb lea len Q A Z1 s K X D n M fb ∧ FR H H1 t2 ∧ xe (ixP fv) (d + 10) 0 782 [l0, l1, l2, some (.ref (b)), l4, l5, l6, l7, l8, l9, l10, l11, l12, l13, l14, l15, l16, l17, l18, l19, some (.ref (o)), some (.int (nI (k))), l22, l23, l24, l25, l26, l27, l28, l29, l30, l31] [] H = xe (ixP fv) (d + 10) 0 782 [l0, l1, l2, some (.ref (b)), l4, l5, l6, l7, l8, l9, l10, l11, l12, l13, l14, l15, l16, l17, l18, l19, some (.ref (o)), some (.int (nI (k + 1))), l22, l23, l24, l25, l26, l27, l28, l29, l30, l31] [] (H1.set o (.inl (0, 4, .inl (upd f k (f20 M n k))))) := by
  obtain ⟨a1, a2, a3, a4, a5, a6⟩ := HW_lt g.1
  rcases k with _ | _ | _ | _ | k
  · obtain ⟨H1, Z1, e1', g1, e2⟩ := hw106_0 (fv := fv) (d := d + 2) g
    have e1 : xe (ixP fv) (d + 9) 106 0 [some (.ref b), some (.int 1), some (.int (nI 0)), none] [] H = some (.inl (some (.int (f20 M n 0))), H1) := e1'
    have fr : FR H H1 t2 := by rw [e2]; exact FR_Z g.1
    have hr1 : H1[o]? = some (.inl (0, 4, .inl f)) := (fr.2.2 o (Or.inr ho)).trans hr
    have k1 : wA (ixP fv) H1 o (nI 0) (f20 M n 0) = some (H1.set o (.inl (0, 4, .inl (upd f 0 (f20 M n 0))))) := by
      rw [wA_of hr1 (by omega) (in_big (by decide) (by decide)), nI_clamp (by decide)]
    have c1 : ¬ (4 : Int32) ≤ nI 0 := by decide
    have ek : nI 0 + 1 = nI (0 + 1) := nI_add 0 1
    refine ⟨H1, Z1, g1, fr, ?_⟩
    simp only [q0_782 (x := nI 0), q0_784, q0_785, q0_788, q0_790, q0_792, q0_793, q0_794, q0_796, q0_799, q0_800, q0_803, i10, eq_self, ft0, ft1, b01_ft, k1r, k1i, xG_some, xH_some, xC_v, xC_n, if_true, if_false, not_true_eq_false, not_false_eq_true, ix_st, ix_st2, List.getElem?_cons_succ, List.getElem?_cons_zero, List.set_cons_succ, List.set_cons_zero, Value.category, List.map_cons, List.map_nil, List.sum_cons, List.sum_nil, Nat.reduceAdd, Nat.reduceLeDiff, Nat.reduceEqDiff, Nat.zero_le, reduceCtorEq, ↓reduceIte, eq_self, xit, e1, k1, c1, ek, HI_is g]
  · obtain ⟨H1, Z1, e1', g1, e2⟩ := hw106_1 (fv := fv) (d := d + 2) g
    have e1 : xe (ixP fv) (d + 9) 106 0 [some (.ref b), some (.int 1), some (.int (nI 1)), none] [] H = some (.inl (some (.int (f20 M n 1))), H1) := e1'
    have fr : FR H H1 t2 := by rw [e2]; exact FR_Z g.1
    have hr1 : H1[o]? = some (.inl (0, 4, .inl f)) := (fr.2.2 o (Or.inr ho)).trans hr
    have k1 : wA (ixP fv) H1 o (nI 1) (f20 M n 1) = some (H1.set o (.inl (0, 4, .inl (upd f 1 (f20 M n 1))))) := by
      rw [wA_of hr1 (by omega) (in_big (by decide) (by decide)), nI_clamp (by decide)]
    have c1 : ¬ (4 : Int32) ≤ nI 1 := by decide
    have ek : nI 1 + 1 = nI (1 + 1) := nI_add 1 1
    refine ⟨H1, Z1, g1, fr, ?_⟩
    simp only [q0_782 (x := nI 1), q0_784, q0_785, q0_788, q0_790, q0_792, q0_793, q0_794, q0_796, q0_799, q0_800, q0_803, i10, eq_self, ft0, ft1, b01_ft, k1r, k1i, xG_some, xH_some, xC_v, xC_n, if_true, if_false, not_true_eq_false, not_false_eq_true, ix_st, ix_st2, List.getElem?_cons_succ, List.getElem?_cons_zero, List.set_cons_succ, List.set_cons_zero, Value.category, List.map_cons, List.map_nil, List.sum_cons, List.sum_nil, Nat.reduceAdd, Nat.reduceLeDiff, Nat.reduceEqDiff, Nat.zero_le, reduceCtorEq, ↓reduceIte, eq_self, xit, e1, k1, c1, ek, HI_is g]
  · obtain ⟨H1, Z1, e1', g1, e2⟩ := hw106_2 (fv := fv) (d := d + 2) g
    have e1 : xe (ixP fv) (d + 9) 106 0 [some (.ref b), some (.int 1), some (.int (nI 2)), none] [] H = some (.inl (some (.int (f20 M n 2))), H1) := e1'
    have fr : FR H H1 t2 := by rw [e2]; exact FR_Z g.1
    have hr1 : H1[o]? = some (.inl (0, 4, .inl f)) := (fr.2.2 o (Or.inr ho)).trans hr
    have k1 : wA (ixP fv) H1 o (nI 2) (f20 M n 2) = some (H1.set o (.inl (0, 4, .inl (upd f 2 (f20 M n 2))))) := by
      rw [wA_of hr1 (by omega) (in_big (by decide) (by decide)), nI_clamp (by decide)]
    have c1 : ¬ (4 : Int32) ≤ nI 2 := by decide
    have ek : nI 2 + 1 = nI (2 + 1) := nI_add 2 1
    refine ⟨H1, Z1, g1, fr, ?_⟩
    simp only [q0_782 (x := nI 2), q0_784, q0_785, q0_788, q0_790, q0_792, q0_793, q0_794, q0_796, q0_799, q0_800, q0_803, i10, eq_self, ft0, ft1, b01_ft, k1r, k1i, xG_some, xH_some, xC_v, xC_n, if_true, if_false, not_true_eq_false, not_false_eq_true, ix_st, ix_st2, List.getElem?_cons_succ, List.getElem?_cons_zero, List.set_cons_succ, List.set_cons_zero, Value.category, List.map_cons, List.map_nil, List.sum_cons, List.sum_nil, Nat.reduceAdd, Nat.reduceLeDiff, Nat.reduceEqDiff, Nat.zero_le, reduceCtorEq, ↓reduceIte, eq_self, xit, e1, k1, c1, ek, HI_is g]
  · obtain ⟨H1, Z1, e1', g1, e2⟩ := hw106_3 (fv := fv) (d := d + 2) g
    have e1 : xe (ixP fv) (d + 9) 106 0 [some (.ref b), some (.int 1), some (.int (nI 3)), none] [] H = some (.inl (some (.int (f20 M n 3))), H1) := e1'
    have fr : FR H H1 t2 := by rw [e2]; exact FR_Z g.1
    have hr1 : H1[o]? = some (.inl (0, 4, .inl f)) := (fr.2.2 o (Or.inr ho)).trans hr
    have k1 : wA (ixP fv) H1 o (nI 3) (f20 M n 3) = some (H1.set o (.inl (0, 4, .inl (upd f 3 (f20 M n 3))))) := by
      rw [wA_of hr1 (by omega) (in_big (by decide) (by decide)), nI_clamp (by decide)]
    have c1 : ¬ (4 : Int32) ≤ nI 3 := by decide
    have ek : nI 3 + 1 = nI (3 + 1) := nI_add 3 1
    refine ⟨H1, Z1, g1, fr, ?_⟩
    simp only [q0_782 (x := nI 3), q0_784, q0_785, q0_788, q0_790, q0_792, q0_793, q0_794, q0_796, q0_799, q0_800, q0_803, i10, eq_self, ft0, ft1, b01_ft, k1r, k1i, xG_some, xH_some, xC_v, xC_n, if_true, if_false, not_true_eq_false, not_false_eq_true, ix_st, ix_st2, List.getElem?_cons_succ, List.getElem?_cons_zero, List.set_cons_succ, List.set_cons_zero, Value.category, List.map_cons, List.map_nil, List.sum_cons, List.sum_nil, Nat.reduceAdd, Nat.reduceLeDiff, Nat.reduceEqDiff, Nat.zero_le, reduceCtorEq, ↓reduceIte, eq_self, xit, e1, k1, c1, ek, HI_is g]
  · omega
end LAWR9
