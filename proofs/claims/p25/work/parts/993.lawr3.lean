/-! THE LAW: a round; a row of cradles (written by gen993.py). -/
/-- a cradle's row as the law reads it -/
def cv (M : Mm) (n : Nat → Nat) (c : Nat) : Nat → Int32
  | 0 => M 4 c 0
  | 1 => M 4 c 1
  | 2 => M 4 c 2
  | 3 => M 4 c 3
  | 4 => sGl M n c
  | 5 => M 4 c 4
  | _ => 0
section LAWR3
variable {fv : Value} {d : Nat} {H : ix_H} {b tp rd pl t t2 tb o : Nat} {lea len : Int32} {Q A A' Z Z' : Mem} {s : Nat} {K : Nat → Option (Nat × Nat)} {X : Nat → Nat} {D : Nat → Nat → Nat} {n fb : Nat → Nat} {M M' : Mm} {p c f q m k v j : Nat} {w i x : Int32} {F : Nat → Nat → Int32} {l0 l1 l2 l3 l4 l5 l6 l7 l8 l9 l10 l11 l12 l13 l14 l15 l16 l17 l18 l19 l20 l21 l22 l23 l24 l25 l26 l27 l28 l29 l30 l31 : Option Value}
theorem r13_step (g : HI H b tp rd pl t t2 tb lea len Q A Z s K X D n M fb) (G : isG H o (n 4) 6 F) (ho : t2 + 10 ≤ o) (hc : c < n 4) (hj : j < 6) : ∃ A', eqA A A' ∧ xe (ixP fv) (d + 10) 0 341 [l0, l1, l2, some (.ref (b)), l4, l5, l6, l7, l8, l9, l10, l11, l12, some (.ref (o)), some (.int (nI c)), some (.int (nI j)), l16, l17, l18, l19, l20, l21, l22, l23, l24, l25, l26, l27, l28, l29, l30, l31] [] H = xe (ixP fv) (d + 10) 0 341 [l0, l1, l2, some (.ref (b)), l4, l5, l6, l7, l8, l9, l10, l11, l12, some (.ref (o)), some (.int (nI c)), some (.int (nI (j + 1))), l16, l17, l18, l19, l20, l21, l22, l23, l24, l25, l26, l27, l28, l29, l30, l31] [] ((wAr H pl t Q A').set (o + 1 + c) (.inl (0, 6, .inl (upd (F c) j (cv M n c j))))) := by
  obtain ⟨a1, a2, a3, a4, a5, a6⟩ := HW_lt g.1
  have hn := HI_n g
  have e0 := rQ_g (fv := fv) G (by omega) hc (by omega)
  rcases j with _ | _ | _ | _ | _ | _ | j
  · have e2 := fun H' (G' : isG H' o (n 4) 6 F) => wA_g (fv := fv) (H := H') (j := 0) (v := cv M n c 0) G' (by omega) hc (by decide) (by decide)
    have c1 : ¬ (6 : Int32) ≤ nI 0 := by decide
    have e3 : nI 0 + 1 = nI (0 + 1) := nI_add 0 1
    have e1 : ∀ d, xe (ixP fv) (d + 5) 97 0 [some (.ref b), some (.int (nI c)), some (.int (nI 0))] [] H = some (.inl (some (.int (cv M n c 0))), H) := fun d => hw97_0 (fv := fv) (d := d) g hc
    refine ⟨A, eqA_r, ?_⟩
    rw [HW_A g.1]
    simp only [q0_341 (x := nI 0), q0_343, q0_345, q0_348, q0_350, q0_352, q0_353, q0_355, q0_356, q0_358, q0_360, q0_363, q0_364, q0_367, i10, eq_self, ft0, ft1, b01_ft, k1r, k1i, xG_some, xH_some, xC_v, xC_n, if_true, if_false, not_true_eq_false, not_false_eq_true, ix_st, ix_st2, List.getElem?_cons_succ, List.getElem?_cons_zero, List.set_cons_succ, List.set_cons_zero, Value.category, List.map_cons, List.map_nil, List.sum_cons, List.sum_nil, Nat.reduceAdd, Nat.reduceLeDiff, Nat.reduceEqDiff, Nat.zero_le, reduceCtorEq, ↓reduceIte, eq_self, xit, e0, e1, e2 _ G, e3, c1, HI_is g]
  · have e2 := fun H' (G' : isG H' o (n 4) 6 F) => wA_g (fv := fv) (H := H') (j := 1) (v := cv M n c 1) G' (by omega) hc (by decide) (by decide)
    have c1 : ¬ (6 : Int32) ≤ nI 1 := by decide
    have e3 : nI 1 + 1 = nI (1 + 1) := nI_add 1 1
    have e1 : ∀ d, xe (ixP fv) (d + 5) 97 0 [some (.ref b), some (.int (nI c)), some (.int (nI 1))] [] H = some (.inl (some (.int (cv M n c 1))), H) := fun d => hw97_1 (fv := fv) (d := d) g hc
    refine ⟨A, eqA_r, ?_⟩
    rw [HW_A g.1]
    simp only [q0_341 (x := nI 1), q0_343, q0_345, q0_348, q0_350, q0_352, q0_353, q0_355, q0_356, q0_358, q0_360, q0_363, q0_364, q0_367, i10, eq_self, ft0, ft1, b01_ft, k1r, k1i, xG_some, xH_some, xC_v, xC_n, if_true, if_false, not_true_eq_false, not_false_eq_true, ix_st, ix_st2, List.getElem?_cons_succ, List.getElem?_cons_zero, List.set_cons_succ, List.set_cons_zero, Value.category, List.map_cons, List.map_nil, List.sum_cons, List.sum_nil, Nat.reduceAdd, Nat.reduceLeDiff, Nat.reduceEqDiff, Nat.zero_le, reduceCtorEq, ↓reduceIte, eq_self, xit, e0, e1, e2 _ G, e3, c1, HI_is g]
  · have e2 := fun H' (G' : isG H' o (n 4) 6 F) => wA_g (fv := fv) (H := H') (j := 2) (v := cv M n c 2) G' (by omega) hc (by decide) (by decide)
    have c1 : ¬ (6 : Int32) ≤ nI 2 := by decide
    have e3 : nI 2 + 1 = nI (2 + 1) := nI_add 2 1
    have e1 : ∀ d, xe (ixP fv) (d + 5) 97 0 [some (.ref b), some (.int (nI c)), some (.int (nI 2))] [] H = some (.inl (some (.int (cv M n c 2))), H) := fun d => hw97_2 (fv := fv) (d := d) g hc
    refine ⟨A, eqA_r, ?_⟩
    rw [HW_A g.1]
    simp only [q0_341 (x := nI 2), q0_343, q0_345, q0_348, q0_350, q0_352, q0_353, q0_355, q0_356, q0_358, q0_360, q0_363, q0_364, q0_367, i10, eq_self, ft0, ft1, b01_ft, k1r, k1i, xG_some, xH_some, xC_v, xC_n, if_true, if_false, not_true_eq_false, not_false_eq_true, ix_st, ix_st2, List.getElem?_cons_succ, List.getElem?_cons_zero, List.set_cons_succ, List.set_cons_zero, Value.category, List.map_cons, List.map_nil, List.sum_cons, List.sum_nil, Nat.reduceAdd, Nat.reduceLeDiff, Nat.reduceEqDiff, Nat.zero_le, reduceCtorEq, ↓reduceIte, eq_self, xit, e0, e1, e2 _ G, e3, c1, HI_is g]
  · have e2 := fun H' (G' : isG H' o (n 4) 6 F) => wA_g (fv := fv) (H := H') (j := 3) (v := cv M n c 3) G' (by omega) hc (by decide) (by decide)
    have c1 : ¬ (6 : Int32) ≤ nI 3 := by decide
    have e3 : nI 3 + 1 = nI (3 + 1) := nI_add 3 1
    have e1 : ∀ d, xe (ixP fv) (d + 5) 97 0 [some (.ref b), some (.int (nI c)), some (.int (nI 3))] [] H = some (.inl (some (.int (cv M n c 3))), H) := fun d => hw97_3 (fv := fv) (d := d) g hc
    refine ⟨A, eqA_r, ?_⟩
    rw [HW_A g.1]
    simp only [q0_341 (x := nI 3), q0_343, q0_345, q0_348, q0_350, q0_352, q0_353, q0_355, q0_356, q0_358, q0_360, q0_363, q0_364, q0_367, i10, eq_self, ft0, ft1, b01_ft, k1r, k1i, xG_some, xH_some, xC_v, xC_n, if_true, if_false, not_true_eq_false, not_false_eq_true, ix_st, ix_st2, List.getElem?_cons_succ, List.getElem?_cons_zero, List.set_cons_succ, List.set_cons_zero, Value.category, List.map_cons, List.map_nil, List.sum_cons, List.sum_nil, Nat.reduceAdd, Nat.reduceLeDiff, Nat.reduceEqDiff, Nat.zero_le, reduceCtorEq, ↓reduceIte, eq_self, xit, e0, e1, e2 _ G, e3, c1, HI_is g]
  · have e2 := fun H' (G' : isG H' o (n 4) 6 F) => wA_g (fv := fv) (H := H') (j := 4) (v := cv M n c 4) G' (by omega) hc (by decide) (by decide)
    have c1 : ¬ (6 : Int32) ≤ nI 4 := by decide
    have e3 : nI 4 + 1 = nI (4 + 1) := nI_add 4 1
    obtain ⟨A', e1', hq⟩ := hw97_4 (fv := fv) (d := d + 4) g hc
    have e1 : xe (ixP fv) (d + 9) 97 0 [some (.ref b), some (.int (nI c)), some (.int (nI 4))] [] H = some (.inl (some (.int (cv M n c 4))), wAr H pl t Q A') := e1'
    have G' : isG (wAr H pl t Q A') o (n 4) 6 F := isG_of G (fun q h1 _ => (FR_A g.1).2.2 q (Or.inr (by omega)))
    refine ⟨A', hq, ?_⟩
    simp only [q0_341 (x := nI 4), q0_343, q0_345, q0_348, q0_350, q0_352, q0_353, q0_355, q0_356, q0_358, q0_360, q0_363, q0_364, q0_367, i10, eq_self, ft0, ft1, b01_ft, k1r, k1i, xG_some, xH_some, xC_v, xC_n, if_true, if_false, not_true_eq_false, not_false_eq_true, ix_st, ix_st2, List.getElem?_cons_succ, List.getElem?_cons_zero, List.set_cons_succ, List.set_cons_zero, Value.category, List.map_cons, List.map_nil, List.sum_cons, List.sum_nil, Nat.reduceAdd, Nat.reduceLeDiff, Nat.reduceEqDiff, Nat.zero_le, reduceCtorEq, ↓reduceIte, eq_self, xit, e0, e1, e2 _ G', e3, c1, HI_is g]
  · have e2 := fun H' (G' : isG H' o (n 4) 6 F) => wA_g (fv := fv) (H := H') (j := 5) (v := cv M n c 5) G' (by omega) hc (by decide) (by decide)
    have c1 : ¬ (6 : Int32) ≤ nI 5 := by decide
    have e3 : nI 5 + 1 = nI (5 + 1) := nI_add 5 1
    have e1 : ∀ d, xe (ixP fv) (d + 5) 97 0 [some (.ref b), some (.int (nI c)), some (.int (nI 5))] [] H = some (.inl (some (.int (cv M n c 5))), H) := fun d => hw97_5 (fv := fv) (d := d) g hc
    refine ⟨A, eqA_r, ?_⟩
    rw [HW_A g.1]
    simp only [q0_341 (x := nI 5), q0_343, q0_345, q0_348, q0_350, q0_352, q0_353, q0_355, q0_356, q0_358, q0_360, q0_363, q0_364, q0_367, i10, eq_self, ft0, ft1, b01_ft, k1r, k1i, xG_some, xH_some, xC_v, xC_n, if_true, if_false, not_true_eq_false, not_false_eq_true, ix_st, ix_st2, List.getElem?_cons_succ, List.getElem?_cons_zero, List.set_cons_succ, List.set_cons_zero, Value.category, List.map_cons, List.map_nil, List.sum_cons, List.sum_nil, Nat.reduceAdd, Nat.reduceLeDiff, Nat.reduceEqDiff, Nat.zero_le, reduceCtorEq, ↓reduceIte, eq_self, xit, e0, e1, e2 _ G, e3, c1, HI_is g]
  · omega
theorem r13_row : ∀ (r j : Nat) (H : ix_H) (A : Mem) (F : Nat → Nat → Int32), j + r = 6 → HI H b tp rd pl t t2 tb lea len Q A Z s K X D n M fb → isG H o (n 4) 6 F → t2 + 10 ≤ o → c < n 4 → ∃ H' A' F', xe (ixP fv) (d + 10) 0 341 [l0, l1, l2, some (.ref (b)), l4, l5, l6, l7, l8, l9, l10, l11, l12, some (.ref (o)), some (.int (nI c)), some (.int (nI j)), l16, l17, l18, l19, l20, l21, l22, l23, l24, l25, l26, l27, l28, l29, l30, l31] [] H = xe (ixP fv) (d + 10) 0 341 [l0, l1, l2, some (.ref (b)), l4, l5, l6, l7, l8, l9, l10, l11, l12, some (.ref (o)), some (.int (nI c)), some (.int (nI 6)), l16, l17, l18, l19, l20, l21, l22, l23, l24, l25, l26, l27, l28, l29, l30, l31] [] H' ∧ HI H' b tp rd pl t t2 tb lea len Q A' Z s K X D n M fb ∧ eqA A A' ∧ isG H' o (n 4) 6 F' ∧ (∀ p', p' ≠ c → F' p' = F p') ∧ (∀ i, i < j → F' c i = F c i) ∧ (∀ i, j ≤ i → i < 6 → F' c i = cv M n c i) ∧ H'.length = H.length ∧ ix_sz H' = ix_sz H ∧ ∀ q, q ≠ o + 1 + c → (q < 98 ∨ t2 + 10 ≤ q) → H'[q]? = H[q]?
  | 0, j, H, A, F, e, g, G, ho, hc => by
    have : j = 6 := by omega
    subst this
    exact ⟨H, A, F, rfl, g, eqA_r, G, fun _ _ => rfl, fun _ _ => rfl, fun i h1 h2 => by omega, rfl, rfl, fun _ _ _ => rfl⟩
  | r + 1, j, H, A, F, e, g, G, ho, hc => by
    obtain ⟨A1, hq, h⟩ := r13_step (fv := fv) (d := d) (j := j) (l0 := l0) (l1 := l1) (l2 := l2) (l4 := l4) (l5 := l5) (l6 := l6) (l7 := l7) (l8 := l8) (l9 := l9) (l10 := l10) (l11 := l11) (l12 := l12) (l16 := l16) (l17 := l17) (l18 := l18) (l19 := l19) (l20 := l20) (l21 := l21) (l22 := l22) (l23 := l23) (l24 := l24) (l25 := l25) (l26 := l26) (l27 := l27) (l28 := l28) (l29 := l29) (l30 := l30) (l31 := l31) g G ho hc (by omega)
    have fr := FR_A (A' := A1) g.1
    have G1 : isG (wAr H pl t Q A1) o (n 4) 6 F := isG_of G (fun q h1 _ => fr.2.2 q (Or.inr (by omega)))
    obtain ⟨H', A', F', e1, g1, q1, G2, f1, f2, f3, z1, z2, z3⟩ := r13_row r (j + 1) _ A1 _ (by omega) (HI_set (HI_q g hq) (by omega)) (isG_set (j := j) (v := cv M n c j) G1 hc) ho hc
    have k1 : ((wAr H pl t Q A1).set (o + 1 + c) (.inl (0, 6, .inl (upd (F c) j (cv M n c j))))).length = H.length := by rw [List.length_set]; exact fr.1
    have k2 : ix_sz ((wAr H pl t Q A1).set (o + 1 + c) (.inl (0, 6, .inl (upd (F c) j (cv M n c j))))) = ix_sz H := by
      rw [ix_sz_set (wAr H pl t Q A1) (o + 1 + c) (.inl (0, 6, .inl (F c))) (.inl (0, 6, .inl (upd (F c) j (cv M n c j)))) (G1.2 c hc) rfl]
      exact fr.2.1
    have k3 : ∀ q, q ≠ o + 1 + c → (q < 98 ∨ t2 + 10 ≤ q) → ((wAr H pl t Q A1).set (o + 1 + c) (.inl (0, 6, .inl (upd (F c) j (cv M n c j)))))[q]? = H[q]? := fun q hq ho => by
      rw [List.getElem?_set_ne (fun e => hq e.symm)]
      exact fr.2.2 q ho
    refine ⟨H', A', F', h.trans e1, g1, eqA_t hq q1, G2, fun p' hne => (f1 p' hne).trans (if_neg hne), fun i hi => ?_, fun i h1 h2 => ?_, z1.trans k1, z2.trans k2, fun q hq ho => (z3 q hq ho).trans (k3 q hq ho)⟩
    · rw [f2 i (by omega)]
      show upg F c j _ c i = _
      unfold upg
      rw [if_pos rfl, upd_ne (by omega)]
    · by_cases e : i = j
      · subst e
        rw [f2 i (by omega)]
        show upg F c i _ c i = _
        unfold upg
        rw [if_pos rfl, upd_eq]
      · exact f3 i (by omega) h2
/-- what is asked of it -/
theorem r13_chk (g : HI H b tp rd pl t t2 tb lea len Q A Z s K X D n M fb) (G : isG H o (n 4) 6 F) (ho : t2 + 10 ≤ o) (hc : c < n 4) (hF : ∀ i, i < 6 → F c i = cv M n c i) : xe (ixP fv) (d + 10) 0 341 [l0, l1, l2, some (.ref (b)), l4, l5, some (.int (nI (n 2))), l7, l8, l9, l10, l11, l12, some (.ref (o)), some (.int (nI c)), some (.int (nI 6)), l16, l17, l18, l19, l20, l21, l22, l23, l24, l25, l26, l27, l28, l29, l30, l31] [] H = xe (ixP fv) (d + 10) 0 331 [l0, l1, l2, some (.ref (b)), l4, l5, some (.int (nI (n 2))), l7, l8, l9, l10, l11, l12, some (.ref (o)), some (.int (nI (c + 1))), some (.int (nI 6)), l16, l17, l18, l19, l20, l21, l22, l23, l24, l25, l26, l27, l28, l29, l30, l31] [] H := by
  obtain ⟨a1, a2, a3, a4, a5, a6⟩ := HW_lt g.1
  have hn := HI_n g
  have e0 := rQ_g (fv := fv) G (by omega) hc (by omega)
  have r : ∀ j, j < 6 → rA H (o + 1 + c) (nI j) = some (.int (cv M n c j)) := fun j hj => by rw [rA_g G hc hj (by decide), hF j hj]
  obtain ⟨⟨u, h0, u2⟩, ⟨y, h3, y2⟩, ⟨w, h4, w2⟩, s0, s1, s2, s3, s5, s4⟩ := cr_row g.2.1 hc
  have r0 : rA H (o + 1 + c) 0 = some (.int (nI u)) := (r 0 (by decide)).trans (congrArg (fun z => some (Value.int z)) (s0.symm.trans h0))
  have r3 : rA H (o + 1 + c) 3 = some (.int (nI y)) := (r 3 (by decide)).trans (congrArg (fun z => some (Value.int z)) (s3.symm.trans h3))
  have r4 : rA H (o + 1 + c) 4 = some (.int (nI w)) := (r 4 (by decide)).trans (congrArg (fun z => some (Value.int z)) (s4.symm.trans h4))
  have c1 : ¬ nI u < 0 := nI_pos (by omega)
  have c2 : ¬ nI (n 2) ≤ nI u := nI_ge u2 (by omega)
  have c3 : ¬ nI y < 0 := nI_pos (by omega)
  have c4 : ¬ (20 : Int32) < nI y := nI_nlt (a := 20) (by omega) (by decide)
  have c5 : ¬ nI w < 0 := nI_pos (by omega)
  have c6 : nI w < nI (n 2) := nI_lt w2 (by omega)
  have c7 : (6 : Int32) ≤ nI 6 := by decide
  have ec : nI c + 1 = nI (c + 1) := nI_add c 1
  simp only [q0_341, q0_343, q0_345, q0_348, q0_350, q0_352, q0_353, q0_355, q0_356, q0_358, q0_360, q0_363, q0_364, q0_367, q0_370, q0_372, q0_374, q0_375, q0_376, q0_377, q0_380, q0_382, q0_384, q0_385, q0_386, q0_387, q0_389, q0_392, q0_394, q0_396, q0_397, q0_398, q0_399, q0_402, q0_404, q0_406, q0_407, q0_408, q0_409, q0_411, q0_414, q0_416, q0_418, q0_419, q0_420, q0_421, q0_424, q0_426, q0_428, q0_429, q0_430, q0_431, q0_433, q0_436, q0_437 (st := []), q0_438, q0_441, i10, eq_self, ft0, ft1, b01_ft, k1r, k1i, xG_some, xH_some, xC_v, xC_n, if_true, if_false, not_true_eq_false, not_false_eq_true, ix_st, ix_st2, List.getElem?_cons_succ, List.getElem?_cons_zero, List.set_cons_succ, List.set_cons_zero, Value.category, List.map_cons, List.map_nil, List.sum_cons, List.sum_nil, Nat.reduceAdd, Nat.reduceLeDiff, Nat.reduceEqDiff, Nat.zero_le, reduceCtorEq, ↓reduceIte, eq_self, xit, e0, r0, r3, r4, c1, c2, c3, c4, c5, c6, c7, ec]
end LAWR3
