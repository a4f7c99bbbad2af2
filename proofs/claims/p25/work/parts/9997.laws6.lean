/-! THE LAW: isSame as a whole; forty rounds (written by gen9997.py). -/
section LAWS6
variable {fv : Value} {d : Nat} {H : ix_H} {b tp rd pl t t2 tb o : Nat} {lea len : Int32} {Q A A' Z Z' : Mem} {s : Nat} {K : Nat → Option (Nat × Nat)} {X : Nat → Nat} {D : Nat → Nat → Nat} {n fb : Nat → Nat} {M M' : Mm} {p c f q m k v j r : Nat} {w i x : Int32} {F : Nat → Int32} {l0 l1 l2 l3 l4 l5 l6 l7 l8 l9 : Option Value}
theorem m135 (g : HI H b tp rd pl t t2 tb lea len Q A Z s K X D n M fb) : ∃ H', xe (ixP fv) (d + 9) 135 0 [some (.ref s), some (.ref b), none, none, none, none, none, none, none, none] [] H = some (.inl (some (.int 1)), H') ∧ H'.length ≤ H.length + 50 ∧ ix_sz H' ≤ ix_sz H + 400 := by
  have hn := HI_n g
  have L0 := HW_lt g.1
  obtain ⟨H1, g1, z1, y1, e1⟩ := s_cnt (fv := fv) (d := d) g
  have hfb : fb 0 = 0 := g.2.1.1.1.2.2.1.1
  have t1 : xe (ixP fv) (d + 9) 135 142 [some (.ref s), some (.ref b), some (.ref (H.length)), some (.int (nI 14)), none, none, none, none, none, none] [] H1 = xe (ixP fv) (d + 9) 135 147 [some (.ref s), some (.ref b), some (.ref (H.length)), some (.int (nI (fb 0))), some (.int (nI 0)), none, none, none, none, none] [] H1 := by
    rw [hfb]
    simp only [q135_142, q135_143, q135_144, q135_145, i10, eq_self, ft0, ft1, b01_ft, k1r, k1i, xG_some, xH_some, xC_v, xC_n, if_true, if_false, not_true_eq_false, not_false_eq_true, ix_st, ix_st2, List.getElem?_cons_succ, List.getElem?_cons_zero, List.set_cons_succ, List.set_cons_zero, Value.category, List.map_cons, List.map_nil, List.sum_cons, List.sum_nil, Nat.reduceAdd, Nat.reduceLeDiff, Nat.reduceEqDiff, Nat.zero_le, reduceCtorEq, ↓reduceIte, eq_self, xit]
    rfl
  obtain ⟨H2, l5, l6, g2, z2, y2, e2⟩ := s_bay (fv := fv) (d := d) (o2 := H.length) (l7 := none) (l8 := none) (l9 := none) (n 1) 0 H1 none none (by omega) g1
  have t2 : xe (ixP fv) (d + 9) 135 267 [some (.ref s), some (.ref b), some (.ref (H.length)), some (.int (nI (fb (n 1)))), some (.int (nI (n 1))), l5, l6, none, none, none] [] H2 = xe (ixP fv) (d + 9) 135 270 [some (.ref s), some (.ref b), some (.ref (H.length)), some (.int (nI (fb (n 1)))), some (.int (nI 0)), l5, l6, none, none, none] [] H2 := by
    simp only [q135_267, q135_268, i10, eq_self, ft0, ft1, b01_ft, k1r, k1i, xG_some, xH_some, xC_v, xC_n, if_true, if_false, not_true_eq_false, not_false_eq_true, ix_st, ix_st2, List.getElem?_cons_succ, List.getElem?_cons_zero, List.set_cons_succ, List.set_cons_zero, Value.category, List.map_cons, List.map_nil, List.sum_cons, List.sum_nil, Nat.reduceAdd, Nat.reduceLeDiff, Nat.reduceEqDiff, Nat.zero_le, reduceCtorEq, ↓reduceIte, eq_self, xit]
    rfl
  obtain ⟨H3, m5, m6, m7, m8, m9, g3, z3, y3, e3⟩ := s_pane (fv := fv) (d := d) (o2 := H.length) (y3 := nI (fb (n 1))) (n 2) 0 H2 l5 l6 none none none (by omega) g2
  have t3 : xe (ixP fv) (d + 9) 135 462 [some (.ref s), some (.ref b), some (.ref (H.length)), some (.int (nI (fb (n 1)))), some (.int (nI (n 2))), m5, m6, m7, m8, m9] [] H3 = xe (ixP fv) (d + 9) 135 465 [some (.ref s), some (.ref b), some (.ref (H.length)), some (.int (nI (fb (n 1)))), some (.int (nI 0)), m5, m6, m7, m8, m9] [] H3 := by
    simp only [q135_462, q135_463, i10, eq_self, ft0, ft1, b01_ft, k1r, k1i, xG_some, xH_some, xC_v, xC_n, if_true, if_false, not_true_eq_false, not_false_eq_true, ix_st, ix_st2, List.getElem?_cons_succ, List.getElem?_cons_zero, List.set_cons_succ, List.set_cons_zero, Value.category, List.map_cons, List.map_nil, List.sum_cons, List.sum_nil, Nat.reduceAdd, Nat.reduceLeDiff, Nat.reduceEqDiff, Nat.zero_le, reduceCtorEq, ↓reduceIte, eq_self, xit]
    rfl
  obtain ⟨H4, A4, k5, k6, k7, g4, z4, y4, e4⟩ := s_crad (fv := fv) (d := d) (o2 := H.length) (y3 := nI (fb (n 1))) (l8 := m8) (l9 := m9) (n 4) 0 H3 A m5 m6 m7 (by omega) g3
  have t4 : xe (ixP fv) (d + 9) 135 574 [some (.ref s), some (.ref b), some (.ref (H.length)), some (.int (nI (fb (n 1)))), some (.int (nI (n 4))), k5, k6, k7, m8, m9] [] H4 = xe (ixP fv) (d + 9) 135 577 [some (.ref s), some (.ref b), some (.ref (H.length)), some (.int (nI (fb (n 1)))), some (.int (nI 0)), k5, k6, k7, m8, m9] [] H4 := by
    simp only [q135_574, q135_575, i10, eq_self, ft0, ft1, b01_ft, k1r, k1i, xG_some, xH_some, xC_v, xC_n, if_true, if_false, not_true_eq_false, not_false_eq_true, ix_st, ix_st2, List.getElem?_cons_succ, List.getElem?_cons_zero, List.set_cons_succ, List.set_cons_zero, Value.category, List.map_cons, List.map_nil, List.sum_cons, List.sum_nil, Nat.reduceAdd, Nat.reduceLeDiff, Nat.reduceEqDiff, Nat.zero_le, reduceCtorEq, ↓reduceIte, eq_self, xit]
    rfl
  obtain ⟨i5, e5⟩ := s_flk (fv := fv) (d := d) (o2 := H.length) (y3 := nI (fb (n 1))) (l6 := k6) (l7 := k7) (l8 := m8) (l9 := m9) g4 (n 5) 0 k5 (by omega)
  have n2 := hL2 (fv := fv) g4
  have h5 := fun ty fin Y => hS5 (fv := fv) (ty := ty) (fin := fin) (Y := Y) g4
  have b2 := bg (m := n 2) (by omega)
  have kk := nI_clamp (n := n 2) (by omega)
  have t5 : xe (ixP fv) (d + 9) 135 631 [some (.ref s), some (.ref b), some (.ref (H.length)), some (.int (nI (fb (n 1)))), some (.int (nI (n 5))), i5, k6, k7, m8, m9] [] H4 = xe (ixP fv) (d + 9) 135 643 [some (.ref s), some (.ref b), some (.ref (H.length)), some (.int (nI (fb (n 1)))), some (.ref (H4.length)), some (.int (nI 0)), k6, k7, m8, m9] [] (H4 ++ [.inl (3, n 2, .inl (fun _ => 0))]) := by
    simp only [q135_631, q135_632, q135_635, q135_638, q135_640, q135_641, q135_636 b2, i10, eq_self, ft0, ft1, b01_ft, k1r, k1i, xG_some, xH_some, xC_v, xC_n, if_true, if_false, not_true_eq_false, not_false_eq_true, ix_st, ix_st2, List.getElem?_cons_succ, List.getElem?_cons_zero, List.set_cons_succ, List.set_cons_zero, Value.category, List.map_cons, List.map_nil, List.sum_cons, List.sum_nil, Nat.reduceAdd, Nat.reduceLeDiff, Nat.reduceEqDiff, Nat.zero_le, reduceCtorEq, ↓reduceIte, eq_self, xit, n2, h5, kk]
    rfl
  obtain ⟨E, hE⟩ := INV_D g.2.1
  have L4 := HW_lt g4.1
  have hm := cnt_m (P := stB M) (n 2)
  obtain ⟨H5, v', j6, j7, g5, z5, y5, e6⟩ := s_wo (fv := fv) (d := d) (o2 := H.length) (y3 := nI (fb (n 1))) (o4 := H4.length) (l8 := m8) (l9 := m9) hE (by omega) (cnt (stB M) (n 2)) 0 _ (fun _ => 0) k6 k7 (by omega) (HI_push g4 (l := [.inl (3, n 2, .inl (fun _ => 0))])) get_end (fun p hp => by
    unfold tdB
    rw [decide_eq_false (Nat.not_lt_zero _), Bool.and_false]
    rfl)
  have e7 := s_me (fv := fv) (d := d) (o2 := H.length) (y3 := nI (fb (n 1))) (o4 := H4.length) (w := nI v') (l6 := j6) (l7 := j7) (l8 := m8) (l9 := m9) g5 rfl
  refine ⟨H5, e1.trans (t1.trans (e2.trans (t2.trans (e3.trans (t3.trans (e4.trans (t4.trans (e5.trans (t5.trans (e6.trans e7)))))))))), ?_, ?_⟩
  · rw [z5, List.length_append, z4, z3, z2, z1]
    show _ + 1 ≤ _
    omega
  · rw [y5, ix_sz_push, y4, y3, y2, y1]
    show _ + n 2 ≤ _
    omega
end LAWS6
section LAWR20
variable {fv : Value} {d : Nat} {H : ix_H} {b tp rd pl t t2 tb o : Nat} {lea len : Int32} {Q A A' Z Z' : Mem} {s : Nat} {K : Nat → Option (Nat × Nat)} {X : Nat → Nat} {D : Nat → Nat → Nat} {n fb : Nat → Nat} {M M' : Mm} {p c f q m k v j : Nat} {w i x : Int32} {F : Nat → Nat → Int32} {N : Nat} {f0 : Nat → Int32} {l1 : Option Value}
theorem r_loop (hN : N ≤ 300) : ∀ (r k : Nat) (H : ix_H) (A Z : Mem) (M : Mm) (l5 l6 l7 l8 l9 l10 l11 l12 l13 l14 l15 l16 l17 l18 l19 l20 l21 l22 l23 l24 l25 l26 l27 l28 l29 l30 l31 : Option Value), k + r = 40 → HI H b tp rd pl t t2 tb lea len Q A Z s K X D n M fb → H[0]? = some (.inl (0, N, .inl f0)) → ∃ H', xe (ixP fv) (d + 10) 0 38 [some (.ref (0)), l1, some (.ref (s)), some (.ref (b)), some (.int (nI k)), l5, l6, l7, l8, l9, l10, l11, l12, l13, l14, l15, l16, l17, l18, l19, l20, l21, l22, l23, l24, l25, l26, l27, l28, l29, l30, l31] [] H = some (.inl (some (.int 1)), H') ∧ H'.length ≤ H.length + 41 * r + 50 ∧ ix_sz H' ≤ ix_sz H + 293 * r + 400
  | 0, k, H, A, Z, M, l5, l6, l7, l8, l9, l10, l11, l12, l13, l14, l15, l16, l17, l18, l19, l20, l21, l22, l23, l24, l25, l26, l27, l28, l29, l30, l31, e, g, h0 => by
    have : k = 40 := by omega
    subst this
    obtain ⟨H', e1, e2, e3⟩ := m135 (fv := fv) (d := d) g
    have c1 : (40 : Int32) ≤ nI 40 := by decide
    refine ⟨H', ?_, by omega, by omega⟩
    simp only [q0_38 (x := nI 40), q0_40, q0_42, q0_1478, q0_1479, q0_1480, q0_1483 (st := []), i10, eq_self, ft0, ft1, b01_ft, k1r, k1i, xG_some, xH_some, xC_v, xC_n, if_true, if_false, not_true_eq_false, not_false_eq_true, ix_st, ix_st2, List.getElem?_cons_succ, List.getElem?_cons_zero, List.set_cons_succ, List.set_cons_zero, Value.category, List.map_cons, List.map_nil, List.sum_cons, List.sum_nil, Nat.reduceAdd, Nat.reduceLeDiff, Nat.reduceEqDiff, Nat.zero_le, reduceCtorEq, ↓reduceIte, eq_self, xit, c1, e1, HI_isS g]
  | r + 1, k, H, A, Z, M, l5, l6, l7, l8, l9, l10, l11, l12, l13, l14, l15, l16, l17, l18, l19, l20, l21, l22, l23, l24, l25, l26, l27, l28, l29, l30, l31, e, g, h0 => by
    obtain ⟨H1, A1, Z1, M1, m5, m6, m7, m8, m9, m10, m11, m12, m13, m14, m15, m16, m17, m18, m19, m20, m21, m22, m23, m24, m25, m26, m27, m28, m29, m30, m31, e1, g1, fp⟩ := r_round (fv := fv) (d := d) (l1 := l1) (l5 := l5) (l6 := l6) (l7 := l7) (l8 := l8) (l9 := l9) (l10 := l10) (l11 := l11) (l12 := l12) (l13 := l13) (l14 := l14) (l15 := l15) (l16 := l16) (l17 := l17) (l18 := l18) (l19 := l19) (l20 := l20) (l21 := l21) (l22 := l22) (l23 := l23) (l24 := l24) (l25 := l25) (l26 := l26) (l27 := l27) (l28 := l28) (l29 := l29) (l30 := l30) (l31 := l31) g h0 hN (show k < 40 by omega)
    have L0 := HW_lt g.1
    obtain ⟨H', e2, e3, e4⟩ := r_loop hN r (k + 1) H1 A1 Z1 M1 m5 m6 m7 m8 m9 m10 m11 m12 m13 m14 m15 m16 m17 m18 m19 m20 m21 m22 m23 m24 m25 m26 m27 m28 m29 m30 m31 (by omega) g1 ((fp.2.2.2 0 (by omega) (Or.inl (by decide))).trans h0)
    have z1 := fp.2.1
    have z2 := fp.2.2.1
    exact ⟨H', e1.trans e2, by omega, by omega⟩
end LAWR20
