/-! THE LAW: a round; flocks behind the hour (written by gen9989.py). -/
section LAWR17
variable {fv : Value} {d : Nat} {H : ix_H} {b tp rd pl t t2 tb o : Nat} {lea len : Int32} {Q A A' Z Z' : Mem} {s : Nat} {K : Nat → Option (Nat × Nat)} {X : Nat → Nat} {D : Nat → Nat → Nat} {n fb : Nat → Nat} {M M' : Mm} {p c f q m k v j : Nat} {w i x : Int32} {F : Nat → Nat → Int32} {l0 l1 l2 l3 l4 l5 l6 l7 l8 l9 l10 l11 l12 l13 l14 l15 l16 l17 l18 l19 l20 l21 l22 l23 l24 l25 l26 l27 l28 l29 l30 l31 : Option Value} {A1 : Mem} {o14 o15 : Nat} {f14 f15 : Nat → Int32} {y x27 x30 : Int32}
/-- nobody sits: no pane was free but its own -/
theorem r30_in (G : isG H o (n 2) 7 F) (ho : t2 + 10 ≤ o) (h98 : 98 ≤ t2) (n2 : n 2 ≤ 32) (n5 : n 5 ≤ 3) (hF : ∀ p, p < n 2 → ∀ i, i < 7 → F p i = pv Q A' M n p i) (h14 : H[o14]? = some (.inl (0, n 5, .inl f14))) (hf : f < n 5) (hy : y < 0) (hk : ∀ k, k < n 2 → sFr M n (nI k) = true → nI k = f14 f) : ∀ (r p : Nat), p + r = n 2 → xe (ixP fv) (d + 10) 0 1424 [l0, l1, l2, some (.ref (b)), l4, l5, some (.int (nI (n 2))), l7, some (.int (nI (n 5))), some (.ref (o)), l10, l11, l12, l13, some (.ref (o14)), some (.ref (o15)), l16, l17, l18, l19, l20, l21, l22, l23, l24, l25, l26, some (.int (x27)), some (.int (nI (f))), some (.int (y)), some (.int (x30)), some (.int (nI (p)))] [] H = xe (ixP fv) (d + 10) 0 1466 [l0, l1, l2, some (.ref (b)), l4, l5, some (.int (nI (n 2))), l7, some (.int (nI (n 5))), some (.ref (o)), l10, l11, l12, l13, some (.ref (o14)), some (.ref (o15)), l16, l17, l18, l19, l20, l21, l22, l23, l24, l25, l26, some (.int (x27)), some (.int (nI (f))), some (.int (y)), some (.int (x30)), some (.int (nI (n 2)))] [] H
  | 0, p, e => by
    have : p = n 2 := by omega
    subst this
    have c1 : nI (n 2) ≤ nI (n 2) := Int32.le_refl _
    simp only [q0_1424 (x := nI (n 2)), q0_1426, q0_1428, i10, eq_self, ft0, ft1, b01_ft, k1r, k1i, xG_some, xH_some, xC_v, xC_n, if_true, if_false, not_true_eq_false, not_false_eq_true, ix_st, ix_st2, List.getElem?_cons_succ, List.getElem?_cons_zero, List.set_cons_succ, List.set_cons_zero, Value.category, List.map_cons, List.map_nil, List.sum_cons, List.sum_nil, Nat.reduceAdd, Nat.reduceLeDiff, Nat.reduceEqDiff, Nat.zero_le, reduceCtorEq, ↓reduceIte, eq_self, xit, c1]
  | r + 1, p, e => by
    have hp : p < n 2 := by omega
    have ih := r30_in G ho h98 n2 n5 hF h14 hf hy hk r (p + 1) (by omega)
    refine Eq.trans ?_ ih
    have e0 := rQ_g (fv := fv) G (by omega) hp (by omega)
    have r6 : rA H (o + 1 + p) 6 = some (.int (b01 (sFr M n (nI p)))) := (rA_g (j := 6) G hp (by decide) (by decide)).trans (by rw [hF p hp 6 (by decide)]; rfl)
    have q14 : rA H o14 (nI f) = some (.int (f14 f)) := by
      rw [rA_of h14 (in_big hf (by omega)), nI_clamp (by omega)]
    have c1 : ¬ nI (n 2) ≤ nI p := nI_ge hp (by omega)
    have c2 : ¬ (0 : Int32) ≤ y := Int32.not_le.mpr hy
    have ep : nI p + 1 = nI (p + 1) := nI_add p 1
    have c01 : ¬ (0 : Int32) = 1 := by decide
    cases h : sFr M n (nI p) with
    | true =>
      have hw := hk p hp h
      rw [← hw] at q14
      rw [h] at r6
      have r6 : rA H (o + 1 + p) 6 = some (.int 1) := r6
      simp only [q0_1424 (x := nI p), q0_1426, q0_1428, q0_1431, q0_1433, q0_1436, q0_1438, q0_1440, q0_1441, q0_1443, q0_1444, q0_1445, q0_1448, q0_1450, q0_1452, q0_1454, q0_1455, q0_1458, q0_1459 (st := []), q0_1460, q0_1463, i10, eq_self, ft0, ft1, b01_ft, k1r, k1i, xG_some, xH_some, xC_v, xC_n, if_true, if_false, not_true_eq_false, not_false_eq_true, ix_st, ix_st2, List.getElem?_cons_succ, List.getElem?_cons_zero, List.set_cons_succ, List.set_cons_zero, Value.category, List.map_cons, List.map_nil, List.sum_cons, List.sum_nil, Nat.reduceAdd, Nat.reduceLeDiff, Nat.reduceEqDiff, Nat.zero_le, reduceCtorEq, ↓reduceIte, eq_self, xit, e0, r6, q14, c1, c2, ep]
    | false =>
      rw [h] at r6
      have r6 : rA H (o + 1 + p) 6 = some (.int 0) := r6
      simp only [q0_1424 (x := nI p), q0_1426, q0_1428, q0_1431, q0_1433, q0_1436, q0_1438, q0_1440, q0_1441, q0_1443, q0_1444, q0_1445, q0_1448, q0_1450, q0_1452, q0_1454, q0_1455, q0_1458, q0_1459 (st := []), q0_1460, q0_1463, i10, eq_self, ft0, ft1, b01_ft, k1r, k1i, xG_some, xH_some, xC_v, xC_n, if_true, if_false, not_true_eq_false, not_false_eq_true, ix_st, ix_st2, List.getElem?_cons_succ, List.getElem?_cons_zero, List.set_cons_succ, List.set_cons_zero, Value.category, List.map_cons, List.map_nil, List.sum_cons, List.sum_nil, Nat.reduceAdd, Nat.reduceLeDiff, Nat.reduceEqDiff, Nat.zero_le, reduceCtorEq, ↓reduceIte, eq_self, xit, e0, r6, q14, c1, c2, ep, c01]
theorem r30_step (g : HI H b tp rd pl t t2 tb lea len Q A1 Z s K X D n (sPs M n) fb) (hl : LF M n (M 5 f) (sPs M n 5 f)) (hg : ∀ k, k < n 2 → sFr M n (nI k) = true → M 2 k 3 = 0) (G : isG H o (n 2) 7 F) (ho : t2 + 10 ≤ o) (hF : ∀ p, p < n 2 → ∀ i, i < 7 → F p i = pv Q A' M n p i) (h14 : H[o14]? = some (.inl (0, n 5, .inl f14))) (h15 : H[o15]? = some (.inl (0, n 5, .inl f15))) (hs : ∀ i, i < n 5 → f14 i = M 5 i 0 ∧ f15 i = M 5 i 3) (hf : f < n 5) : ∃ m29 m30 m31, xe (ixP fv) (d + 10) 0 1341 [l0, l1, l2, some (.ref (b)), l4, l5, some (.int (nI (n 2))), l7, some (.int (nI (n 5))), some (.ref (o)), l10, l11, l12, l13, some (.ref (o14)), some (.ref (o15)), l16, l17, l18, l19, l20, l21, l22, l23, l24, l25, l26, some (.int (x27)), some (.int (nI (f))), l29, l30, l31] [] H = xe (ixP fv) (d + 10) 0 1341 [l0, l1, l2, some (.ref (b)), l4, l5, some (.int (nI (n 2))), l7, some (.int (nI (n 5))), some (.ref (o)), l10, l11, l12, l13, some (.ref (o14)), some (.ref (o15)), l16, l17, l18, l19, l20, l21, l22, l23, l24, l25, l26, some (.int (x27)), some (.int (nI (f + 1))), m29, m30, m31] [] H := by
  obtain ⟨a1, a2, a3, a4, a5, a6⟩ := HW_lt g.1
  have hn := HI_n g
  have w0 := fun d => hw98_0 (fv := fv) (d := d) g hf
  have w3 := fun d => hw98_3 (fv := fv) (d := d) g hf
  have q14 : rA H o14 (nI f) = some (.int (M 5 f 0)) := by
    rw [rA_of h14 (in_big hf (by omega)), nI_clamp (by omega), (hs f hf).1]
  have q15 : rA H o15 (nI f) = some (.int (M 5 f 3)) := by
    rw [rA_of h15 (in_big hf (by omega)), nI_clamp (by omega), (hs f hf).2]
  have c1 : ¬ nI (n 5) ≤ nI f := nI_ge hf (by omega)
  have ef : nI f + 1 = nI (f + 1) := nI_add f 1
  obtain ⟨k1, k2, k3⟩ := hl
  have hin : ∀ y : Int32, y < 0 → (∀ k, k < n 2 → sFr M n (nI k) = true → nI k = M 5 f 0) → ∀ x30, xe (ixP fv) (d + 10) 0 1424 [l0, l1, l2, some (.ref (b)), l4, l5, some (.int (nI (n 2))), l7, some (.int (nI (n 5))), some (.ref (o)), l10, l11, l12, l13, some (.ref (o14)), some (.ref (o15)), l16, l17, l18, l19, l20, l21, l22, l23, l24, l25, l26, some (.int (x27)), some (.int (nI (f))), some (.int (y)), some (.int (x30)), some (.int (nI 0))] [] H = xe (ixP fv) (d + 10) 0 1466 [l0, l1, l2, some (.ref (b)), l4, l5, some (.int (nI (n 2))), l7, some (.int (nI (n 5))), some (.ref (o)), l10, l11, l12, l13, some (.ref (o14)), some (.ref (o15)), l16, l17, l18, l19, l20, l21, l22, l23, l24, l25, l26, some (.int (x27)), some (.int (nI (f))), some (.int (y)), some (.int (x30)), some (.int (nI (n 2)))] [] H := fun y hy hk x30 => r30_in (fv := fv) (d := d) (x27 := x27) (x30 := x30) (l0 := l0) (l1 := l1) (l2 := l2) (l4 := l4) (l5 := l5) (l7 := l7) (l10 := l10) (l11 := l11) (l12 := l12) (l13 := l13) (l16 := l16) (l17 := l17) (l18 := l18) (l19 := l19) (l20 := l20) (l21 := l21) (l22 := l22) (l23 := l23) (l24 := l24) (l25 := l25) (l26 := l26) G ho (by omega) (by omega) (by omega) hF h14 hf hy (fun k h1 h2 => (hk k h1 h2).trans (hs f hf).1.symm) (n 2) 0 (by omega)
  generalize sPs M n 5 f 0 = y0 at *
  generalize sPs M n 5 f 3 = y3 at *
  generalize M 5 f 0 = x0 at *
  generalize M 5 f 3 = x3 at *
  have i0 : (0 : Int32) = nI 0 := rfl
  have head : xe (ixP fv) (d + 10) 0 1341 [l0, l1, l2, some (.ref (b)), l4, l5, some (.int (nI (n 2))), l7, some (.int (nI (n 5))), some (.ref (o)), l10, l11, l12, l13, some (.ref (o14)), some (.ref (o15)), l16, l17, l18, l19, l20, l21, l22, l23, l24, l25, l26, some (.int (x27)), some (.int (nI (f))), l29, l30, l31] [] H = xe (ixP fv) (d + 10) 0 1392 [l0, l1, l2, some (.ref (b)), l4, l5, some (.int (nI (n 2))), l7, some (.int (nI (n 5))), some (.ref (o)), l10, l11, l12, l13, some (.ref (o14)), some (.ref (o15)), l16, l17, l18, l19, l20, l21, l22, l23, l24, l25, l26, some (.int (x27)), some (.int (nI (f))), some (.int (y0)), some (.int (y3 - x3)), l31] [] H := by
    by_cases c : y0 = x0
    · rw [if_pos c] at k1
      subst c
      simp only [q0_1341 (x := nI f), q0_1343, q0_1345, q0_1348, q0_1349, q0_1351, q0_1352, q0_1355, q0_1357, q0_1358, q0_1360, q0_1361, q0_1364, q0_1366, q0_1368, q0_1369, q0_1370, q0_1372, q0_1374, q0_1376, q0_1378, q0_1380, q0_1381, q0_1384, q0_1385, q0_1388, q0_1389, i10, eq_self, ft0, ft1, b01_ft, k1r, k1i, xG_some, xH_some, xC_v, xC_n, if_true, if_false, not_true_eq_false, not_false_eq_true, ix_st, ix_st2, List.getElem?_cons_succ, List.getElem?_cons_zero, List.set_cons_succ, List.set_cons_zero, Value.category, List.map_cons, List.map_nil, List.sum_cons, List.sum_nil, Nat.reduceAdd, Nat.reduceLeDiff, Nat.reduceEqDiff, Nat.zero_le, reduceCtorEq, ↓reduceIte, eq_self, xit, w0, w3, q14, q15, c1, k1, HI_is g]
    · rw [if_neg c] at k1
      simp only [q0_1341 (x := nI f), q0_1343, q0_1345, q0_1348, q0_1349, q0_1351, q0_1352, q0_1355, q0_1357, q0_1358, q0_1360, q0_1361, q0_1364, q0_1366, q0_1368, q0_1369, q0_1370, q0_1372, q0_1374, q0_1376, q0_1378, q0_1380, q0_1381, q0_1384, q0_1385, q0_1388, q0_1389, i10, eq_self, ft0, ft1, b01_ft, k1r, k1i, xG_some, xH_some, xC_v, xC_n, if_true, if_false, not_true_eq_false, not_false_eq_true, ix_st, ix_st2, List.getElem?_cons_succ, List.getElem?_cons_zero, List.set_cons_succ, List.set_cons_zero, Value.category, List.map_cons, List.map_nil, List.sum_cons, List.sum_nil, Nat.reduceAdd, Nat.reduceLeDiff, Nat.reduceEqDiff, Nat.zero_le, reduceCtorEq, ↓reduceIte, eq_self, xit, w0, w3, q14, q15, c1, k1, c, HI_is g]
  have tail : ∀ l31, xe (ixP fv) (d + 10) 0 1466 [l0, l1, l2, some (.ref (b)), l4, l5, some (.int (nI (n 2))), l7, some (.int (nI (n 5))), some (.ref (o)), l10, l11, l12, l13, some (.ref (o14)), some (.ref (o15)), l16, l17, l18, l19, l20, l21, l22, l23, l24, l25, l26, some (.int (x27)), some (.int (nI (f))), some (.int (y0)), some (.int (y3 - x3)), l31] [] H = xe (ixP fv) (d + 10) 0 1341 [l0, l1, l2, some (.ref (b)), l4, l5, some (.int (nI (n 2))), l7, some (.int (nI (n 5))), some (.ref (o)), l10, l11, l12, l13, some (.ref (o14)), some (.ref (o15)), l16, l17, l18, l19, l20, l21, l22, l23, l24, l25, l26, some (.int (x27)), some (.int (nI (f + 1))), some (.int (y0)), some (.int (y3 - x3)), l31] [] H := fun l31 => by
    simp only [q0_1466, q0_1469, i10, eq_self, ft0, ft1, b01_ft, k1r, k1i, xG_some, xH_some, xC_v, xC_n, if_true, if_false, not_true_eq_false, not_false_eq_true, ix_st, ix_st2, List.getElem?_cons_succ, List.getElem?_cons_zero, List.set_cons_succ, List.set_cons_zero, Value.category, List.map_cons, List.map_nil, List.sum_cons, List.sum_nil, Nat.reduceAdd, Nat.reduceLeDiff, Nat.reduceEqDiff, Nat.zero_le, reduceCtorEq, ↓reduceIte, eq_self, xit, ef]
  by_cases hy : y0 < 0
  · refine ⟨some (.int (y0)), some (.int (y3 - x3)), some (.int (nI (n 2))), head.trans (Eq.trans ?_ ((hin y0 hy (k3 hy) (y3 - x3)).trans (tail _)))⟩
    simp only [q0_1392, q0_1394, q0_1397, q0_1399, q0_1401, q0_1402, q0_1403, q0_1404, q0_1405, q0_1408, q0_1410, q0_1412, q0_1413, q0_1415, q0_1416, q0_1419, q0_1420 (st := []), q0_1421, q0_1422, i10, eq_self, ft0, ft1, b01_ft, k1r, k1i, xG_some, xH_some, xC_v, xC_n, if_true, if_false, not_true_eq_false, not_false_eq_true, ix_st, ix_st2, List.getElem?_cons_succ, List.getElem?_cons_zero, List.set_cons_succ, List.set_cons_zero, Value.category, List.map_cons, List.map_nil, List.sum_cons, List.sum_nil, Nat.reduceAdd, Nat.reduceLeDiff, Nat.reduceEqDiff, Nat.zero_le, reduceCtorEq, ↓reduceIte, eq_self, xit, hy]
    rfl
  · obtain ⟨k, hk, e, hfr⟩ := k2.resolve_left hy
    subst e
    have e0 := rQ_g (fv := fv) G (by omega) hk (by omega)
    have r3 : rA H (o + 1 + k) 3 = some (.int 0) := (rA_g (j := 3) G hk (by decide) (by decide)).trans (by rw [hF k hk 3 (by decide)]; exact congrArg (fun z => some (Value.int z)) (hg k hk hfr))
    have r6 : rA H (o + 1 + k) 6 = some (.int 1) := (rA_g (j := 6) G hk (by decide) (by decide)).trans (by rw [hF k hk 6 (by decide)]; show some (Value.int (b01 (sFr M n (nI k)))) = _; rw [hfr]; rfl)
    have c2 : ¬ nI (n 2) ≤ nI 0 := nI_ge (by omega) (by omega)
    have c3 : (0 : Int32) ≤ nI k := Int32.not_lt.mp hy
    have c01 : ¬ (0 : Int32) = 1 := by decide
    refine ⟨some (.int (nI k)), some (.int (y3 - x3)), some (.int (0)), head.trans (Eq.trans ?_ (tail _))⟩
    have c4 : ¬ nI (n 2) ≤ 0 := c2
    simp only [q0_1392, q0_1394, q0_1397, q0_1399, q0_1401, q0_1402, q0_1403, q0_1404, q0_1405, q0_1408, q0_1410, q0_1412, q0_1413, q0_1415, q0_1416, q0_1419, q0_1420 (st := []), q0_1421, q0_1422, q0_1424 (x := 0), q0_1426, q0_1428, q0_1431, q0_1433, i10, eq_self, ft0, ft1, b01_ft, k1r, k1i, xG_some, xH_some, xC_v, xC_n, if_true, if_false, not_true_eq_false, not_false_eq_true, ix_st, ix_st2, List.getElem?_cons_succ, List.getElem?_cons_zero, List.set_cons_succ, List.set_cons_zero, Value.category, List.map_cons, List.map_nil, List.sum_cons, List.sum_nil, Nat.reduceAdd, Nat.reduceLeDiff, Nat.reduceEqDiff, Nat.zero_le, reduceCtorEq, ↓reduceIte, eq_self, xit, hy, e0, r3, r6, c01, c4, c3]
theorem r30_all (g : HI H b tp rd pl t t2 tb lea len Q A1 Z s K X D n (sPs M n) fb) (hl : ∀ f, f < n 5 → LF M n (M 5 f) (sPs M n 5 f)) (hg : ∀ k, k < n 2 → sFr M n (nI k) = true → M 2 k 3 = 0) (G : isG H o (n 2) 7 F) (ho : t2 + 10 ≤ o) (hF : ∀ p, p < n 2 → ∀ i, i < 7 → F p i = pv Q A' M n p i) (h14 : H[o14]? = some (.inl (0, n 5, .inl f14))) (h15 : H[o15]? = some (.inl (0, n 5, .inl f15))) (hs : ∀ i, i < n 5 → f14 i = M 5 i 0 ∧ f15 i = M 5 i 3) : ∀ (r f : Nat) (l29 l30 l31 : Option Value), f + r = n 5 → ∃ m29 m30 m31, xe (ixP fv) (d + 10) 0 1341 [l0, l1, l2, some (.ref (b)), l4, l5, some (.int (nI (n 2))), l7, some (.int (nI (n 5))), some (.ref (o)), l10, l11, l12, l13, some (.ref (o14)), some (.ref (o15)), l16, l17, l18, l19, l20, l21, l22, l23, l24, l25, l26, some (.int (x27)), some (.int (nI (f))), l29, l30, l31] [] H = xe (ixP fv) (d + 10) 0 1341 [l0, l1, l2, some (.ref (b)), l4, l5, some (.int (nI (n 2))), l7, some (.int (nI (n 5))), some (.ref (o)), l10, l11, l12, l13, some (.ref (o14)), some (.ref (o15)), l16, l17, l18, l19, l20, l21, l22, l23, l24, l25, l26, some (.int (x27)), some (.int (nI (n 5))), m29, m30, m31] [] H
  | 0, f, l29, l30, l31, e => by
    have : f = n 5 := by omega
    subst this
    exact ⟨l29, l30, l31, rfl⟩
  | r + 1, f, l29, l30, l31, e => by
    obtain ⟨m29, m30, m31, e1⟩ := r30_step (fv := fv) (d := d) (x27 := x27) (f := f) (l0 := l0) (l1 := l1) (l2 := l2) (l4 := l4) (l5 := l5) (l7 := l7) (l10 := l10) (l11 := l11) (l12 := l12) (l13 := l13) (l16 := l16) (l17 := l17) (l18 := l18) (l19 := l19) (l20 := l20) (l21 := l21) (l22 := l22) (l23 := l23) (l24 := l24) (l25 := l25) (l26 := l26) (l29 := l29) (l30 := l30) (l31 := l31) g (hl f (by omega)) hg G ho hF h14 h15 hs (by omega)
    obtain ⟨x29, x30, x31, e2⟩ := r30_all g hl hg G ho hF h14 h15 hs r (f + 1) m29 m30 m31 (by omega)
    exact ⟨x29, x30, x31, e1.trans e2⟩
theorem r30 (g : HI H b tp rd pl t t2 tb lea len Q A1 Z s K X D n (sPs M n) fb) (hl : ∀ f, f < n 5 → LF M n (M 5 f) (sPs M n 5 f)) (hg : ∀ k, k < n 2 → sFr M n (nI k) = true → M 2 k 3 = 0) (G : isG H o (n 2) 7 F) (ho : t2 + 10 ≤ o) (hF : ∀ p, p < n 2 → ∀ i, i < 7 → F p i = pv Q A' M n p i) (h14 : H[o14]? = some (.inl (0, n 5, .inl f14))) (h15 : H[o15]? = some (.inl (0, n 5, .inl f15))) (hs : ∀ i, i < n 5 → f14 i = M 5 i 0 ∧ f15 i = M 5 i 3) : ∃ m28 m29 m30 m31, xe (ixP fv) (d + 10) 0 1338 [l0, l1, l2, some (.ref (b)), l4, l5, some (.int (nI (n 2))), l7, some (.int (nI (n 5))), some (.ref (o)), l10, l11, l12, l13, some (.ref (o14)), some (.ref (o15)), l16, l17, l18, l19, l20, l21, l22, l23, l24, l25, l26, some (.int (x27)), l28, l29, l30, l31] [] H = xe (ixP fv) (d + 10) 0 1472 [l0, l1, l2, some (.ref (b)), l4, l5, some (.int (nI (n 2))), l7, some (.int (nI (n 5))), some (.ref (o)), l10, l11, l12, l13, some (.ref (o14)), some (.ref (o15)), l16, l17, l18, l19, l20, l21, l22, l23, l24, l25, l26, some (.int (x27)), m28, m29, m30, m31] [] H := by
  obtain ⟨m29, m30, m31, e1⟩ := r30_all (fv := fv) (d := d) (x27 := x27) (l0 := l0) (l1 := l1) (l2 := l2) (l4 := l4) (l5 := l5) (l7 := l7) (l10 := l10) (l11 := l11) (l12 := l12) (l13 := l13) (l16 := l16) (l17 := l17) (l18 := l18) (l19 := l19) (l20 := l20) (l21 := l21) (l22 := l22) (l23 := l23) (l24 := l24) (l25 := l25) (l26 := l26) g hl hg G ho hF h14 h15 hs (n 5) 0 l29 l30 l31 (by omega)
  have c1 : nI (n 5) ≤ nI (n 5) := Int32.le_refl _
  refine ⟨some (.int (nI (n 5))), m29, m30, m31, Eq.trans ?_ (e1.trans ?_)⟩
  · simp only [q0_1338, q0_1339, i10, eq_self, ft0, ft1, b01_ft, k1r, k1i, xG_some, xH_some, xC_v, xC_n, if_true, if_false, not_true_eq_false, not_false_eq_true, ix_st, ix_st2, List.getElem?_cons_succ, List.getElem?_cons_zero, List.set_cons_succ, List.set_cons_zero, Value.category, List.map_cons, List.map_nil, List.sum_cons, List.sum_nil, Nat.reduceAdd, Nat.reduceLeDiff, Nat.reduceEqDiff, Nat.zero_le, reduceCtorEq, ↓reduceIte, eq_self, xit]
    rfl
  · simp only [q0_1341 (x := nI (n 5)), q0_1343, q0_1345, i10, eq_self, ft0, ft1, b01_ft, k1r, k1i, xG_some, xH_some, xC_v, xC_n, if_true, if_false, not_true_eq_false, not_false_eq_true, ix_st, ix_st2, List.getElem?_cons_succ, List.getElem?_cons_zero, List.set_cons_succ, List.set_cons_zero, Value.category, List.map_cons, List.map_nil, List.sum_cons, List.sum_nil, Nat.reduceAdd, Nat.reduceLeDiff, Nat.reduceEqDiff, Nat.zero_le, reduceCtorEq, ↓reduceIte, eq_self, xit, c1]
end LAWR17
