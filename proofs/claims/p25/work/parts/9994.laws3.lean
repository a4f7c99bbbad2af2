/-! THE LAW: isSame; panes (written by gen9994.py). -/
section LAWS3
variable {fv : Value} {d : Nat} {H : ix_H} {b tp rd pl t t2 tb o : Nat} {lea len : Int32} {Q A A' Z Z' : Mem} {s : Nat} {K : Nat → Option (Nat × Nat)} {X : Nat → Nat} {D : Nat → Nat → Nat} {n fb : Nat → Nat} {M M' : Mm} {p c f q m k v j r : Nat} {w i x : Int32} {F : Nat → Int32} {l0 l1 l2 l3 l4 l5 l6 l7 l8 l9 : Option Value} {o2 : Nat} {y3 : Int32}
theorem ca_sum (hI : INV Q A M n fb) : itr (fun c (a : Int32) => a + if M 4 c 0 = nI p then 1 else 0) 0 (n 4) 0 = caL Q A (nI p) := by
  have q3 := hI.1.1.1.2.2.2.1
  have n4 := hI.1.1.2.1.2.2.2.2.1
  unfold caL
  rw [q3, itI_0 (by omega)]
  refine itr_eq (m := n 4) (fun k a hk => ?_) (by omega)
  have hA4 : ca 3 (A 4) (nI k) = M 4 k 0 := by
    rw [ca_n (by omega) (by decide)]
    exact (hI.1.2.1.2.2.1 k hk).1
  unfold caS
  rw [hA4]
  by_cases c : M 4 k 0 = nI p
  · rw [if_pos c, if_neg (fun h => h c)]
  · rw [if_neg c, if_pos c, Int32.add_zero]
theorem s_ca (g : HI H b tp rd pl t t2 tb lea len Q A Z s K X D n M fb) : ∀ (r c : Nat) (a : Int32) (l9 : Option Value), c + r = n 4 → ∃ m9, xe (ixP fv) (d + 9) 135 297 [some (.ref s), some (.ref b), some (.ref o2), some (.int y3), some (.int (nI p)), some (.int (a)), some (.ref (X 4)), some (.int (nI (n 4))), some (.int (nI c)), l9] [] H = xe (ixP fv) (d + 9) 135 336 [some (.ref s), some (.ref b), some (.ref o2), some (.int y3), some (.int (nI p)), some (.int (itr (fun c (a : Int32) => a + if M 4 c 0 = nI p then 1 else 0) c r a)), some (.ref (X 4)), some (.int (nI (n 4))), some (.int (nI (n 4))), m9] [] H
  | 0, c, a, l9, e => by
    have : c = n 4 := by omega
    subst this
    have c1 : nI (n 4) ≤ nI (n 4) := Int32.le_refl _
    refine ⟨l9, ?_⟩
    simp only [q135_297 (x := nI (n 4)), q135_299, q135_301, i10, eq_self, ft0, ft1, b01_ft, k1r, k1i, xG_some, xH_some, xC_v, xC_n, if_true, if_false, not_true_eq_false, not_false_eq_true, ix_st, ix_st2, List.getElem?_cons_succ, List.getElem?_cons_zero, List.set_cons_succ, List.set_cons_zero, Value.category, List.map_cons, List.map_nil, List.sum_cons, List.sum_nil, Nat.reduceAdd, Nat.reduceLeDiff, Nat.reduceEqDiff, Nat.zero_le, reduceCtorEq, ↓reduceIte, eq_self, xit, c1]
    rfl
  | r + 1, c, a, l9, e => by
    have hc : c < n 4 := by omega
    obtain ⟨m9, ih⟩ := s_ca g r (c + 1) (a + if M 4 c 0 = nI p then 1 else 0) (some (.ref (D 4 c))) (by omega)
    refine ⟨m9, Eq.trans ?_ ih⟩
    have hn := HI_n g
    have c1 : ¬ nI (n 4) ≤ nI c := nI_ge hc (by omega)
    have q4 := hQ4 (fv := fv) g hc
    have r0 := h4_0 g hc
    have ec : nI c + 1 = nI (c + 1) := nI_add c 1
    by_cases h : M 4 c 0 = nI p
    · rw [if_pos h]
      simp only [q135_297 (x := nI c), q135_299, q135_301, q135_304, q135_306, q135_308, q135_309, q135_311, q135_313, q135_315, q135_316, q135_317, q135_319, q135_322, q135_323, q135_326, q135_327, q135_328, q135_330, q135_333, i10, eq_self, ft0, ft1, b01_ft, k1r, k1i, xG_some, xH_some, xC_v, xC_n, if_true, if_false, not_true_eq_false, not_false_eq_true, ix_st, ix_st2, List.getElem?_cons_succ, List.getElem?_cons_zero, List.set_cons_succ, List.set_cons_zero, Value.category, List.map_cons, List.map_nil, List.sum_cons, List.sum_nil, Nat.reduceAdd, Nat.reduceLeDiff, Nat.reduceEqDiff, Nat.zero_le, reduceCtorEq, ↓reduceIte, eq_self, xit, c1, q4, r0, ec, h]
    · rw [if_neg h]
      simp only [q135_297 (x := nI c), q135_299, q135_301, q135_304, q135_306, q135_308, q135_309, q135_311, q135_313, q135_315, q135_316, q135_317, q135_319, q135_322, q135_323, q135_326, q135_327, q135_328, q135_330, q135_333, i10, eq_self, ft0, ft1, b01_ft, k1r, k1i, xG_some, xH_some, xC_v, xC_n, if_true, if_false, not_true_eq_false, not_false_eq_true, ix_st, ix_st2, List.getElem?_cons_succ, List.getElem?_cons_zero, List.set_cons_succ, List.set_cons_zero, Value.category, List.map_cons, List.map_nil, List.sum_cons, List.sum_nil, Nat.reduceAdd, Nat.reduceLeDiff, Nat.reduceEqDiff, Nat.zero_le, reduceCtorEq, ↓reduceIte, eq_self, xit, c1, q4, r0, ec, h]
theorem hwP (g : HI H b tp rd pl t t2 tb lea len Q A Z s K X D n M fb) (hp : p < n 2) : ∀ j, j < 7 → xe (ixP fv) (d + 3) 95 0 [some (.ref b), some (.int (nI p)), some (.int (nI j))] [] H = some (.inl (some (.int (pv Q A M n p j))), H)
  | 0, _ => hw95_0 g hp
  | 1, _ => hw95_1 g hp
  | 2, _ => hw95_2 g hp
  | 3, _ => hw95_3 g hp
  | 4, _ => hw95_4 g hp
  | 5, _ => hw95_5 g hp
  | 6, _ => hw95_6 g hp
  | _ + 7, h => by omega
theorem s_pn0 (g : HI H b tp rd pl t t2 tb lea len Q A Z s K X D n M fb) (hp : p < n 2) : xe (ixP fv) (d + 9) 135 336 [some (.ref s), some (.ref b), some (.ref o2), some (.int y3), some (.int (nI p)), some (.int (w)), l6, l7, l8, l9] [] H = xe (ixP fv) (d + 9) 135 425 [some (.ref s), some (.ref b), some (.ref o2), some (.int y3), some (.int (nI p)), some (.int (w)), some (.ref (H.length)), some (.int (nI 0)), l8, l9] [] (H ++ [.inl (0, 7, .inl (upd (upd (upd (upd (upd (upd (upd (fun _ => 0) 0 (M 2 p 0)) 1 (M 2 p 1)) 2 (M 2 p 2)) 3 (M 2 p 3)) 4 (sLi M p)) 5 (w)) 6 (b01 (sFr M n (nI p)))))]) := by
  obtain ⟨a1, a2, a3, a4, a5, a6⟩ := HW_lt g.1
  have h98 : 98 ≤ H.length := by omega
  have hn := HI_n g
  have e5 := fun (F : Nat → Int32) ty fin Y => hS5 (fv := fv) (ty := ty) (fin := fin) (Y := Y) (HI_push g (l := [.inl (0, 7, .inl F)]))
  have q2 := fun (F : Nat → Int32) => hQ2 (fv := fv) (HI_push g (l := [.inl (0, 7, .inl F)])) hp
  have r0 := fun (F : Nat → Int32) => h2_0 (HI_push g (l := [.inl (0, 7, .inl F)])) hp
  have r1 := fun (F : Nat → Int32) => h2_1 (HI_push g (l := [.inl (0, 7, .inl F)])) hp
  have r2 := fun (F : Nat → Int32) => h2_2 (HI_push g (l := [.inl (0, 7, .inl F)])) hp
  have r3 := fun (F : Nat → Int32) => h2_3 (HI_push g (l := [.inl (0, 7, .inl F)])) hp
  have m1 := fun (F : Nat → Int32) d => hm122 (fv := fv) (d := d) (HI_push g (l := [.inl (0, 7, .inl F)])) hp
  have m2 := fun (F : Nat → Int32) d => hm128 (fv := fv) (d := d) (HI_push g (l := [.inl (0, 7, .inl F)])) hp
  have is := fun (F : Nat → Int32) => HI_isS (fv := fv) (HI_push g (l := [.inl (0, 7, .inl F)]))
  have k7 : (7 : Int32).toNatClampNeg = 7 := nI_clamp (n := 7) (by decide)
  have b7 : ix_big 7 = true := bg (m := 7) (by decide)
  have w0 : ∀ (F : Nat → Int32) (w : Int32), wA (ixP fv) (H ++ [.inl (0, 7, .inl F)]) H.length 0 w = some (H ++ [.inl (0, 7, .inl (upd F 0 w))]) := fun F w => wE (j := 0) h98 (by decide) (by decide)
  have w1 : ∀ (F : Nat → Int32) (w : Int32), wA (ixP fv) (H ++ [.inl (0, 7, .inl F)]) H.length 1 w = some (H ++ [.inl (0, 7, .inl (upd F 1 w))]) := fun F w => wE (j := 1) h98 (by decide) (by decide)
  have w2 : ∀ (F : Nat → Int32) (w : Int32), wA (ixP fv) (H ++ [.inl (0, 7, .inl F)]) H.length 2 w = some (H ++ [.inl (0, 7, .inl (upd F 2 w))]) := fun F w => wE (j := 2) h98 (by decide) (by decide)
  have w3 : ∀ (F : Nat → Int32) (w : Int32), wA (ixP fv) (H ++ [.inl (0, 7, .inl F)]) H.length 3 w = some (H ++ [.inl (0, 7, .inl (upd F 3 w))]) := fun F w => wE (j := 3) h98 (by decide) (by decide)
  have w4 : ∀ (F : Nat → Int32) (w : Int32), wA (ixP fv) (H ++ [.inl (0, 7, .inl F)]) H.length 4 w = some (H ++ [.inl (0, 7, .inl (upd F 4 w))]) := fun F w => wE (j := 4) h98 (by decide) (by decide)
  have w5 : ∀ (F : Nat → Int32) (w : Int32), wA (ixP fv) (H ++ [.inl (0, 7, .inl F)]) H.length 5 w = some (H ++ [.inl (0, 7, .inl (upd F 5 w))]) := fun F w => wE (j := 5) h98 (by decide) (by decide)
  have w6 : ∀ (F : Nat → Int32) (w : Int32), wA (ixP fv) (H ++ [.inl (0, 7, .inl F)]) H.length 6 w = some (H ++ [.inl (0, 7, .inl (upd F 6 w))]) := fun F w => wE (j := 6) h98 (by decide) (by decide)
  cases h : sFr M n (nI p) with
  | true =>
    rw [h] at m2
    have m2 : ∀ (F : Nat → Int32) d, xe (ixP fv) d 128 0 [some (.ref s), some (.int (nI p)), none, none] [] (H ++ [.inl (0, 7, .inl F)]) = some (.inl (some (.int 1)), H ++ [.inl (0, 7, .inl F)]) := m2
    simp only [q135_336, q135_340, q135_341, q135_342, q135_343, q135_346, q135_348, q135_349, q135_350, q135_351, q135_352, q135_353, q135_354, q135_355, q135_358, q135_360, q135_361, q135_362, q135_363, q135_364, q135_365, q135_366, q135_367, q135_370, q135_372, q135_373, q135_374, q135_375, q135_376, q135_377, q135_378, q135_379, q135_382, q135_384, q135_385, q135_386, q135_387, q135_388, q135_389, q135_390, q135_391, q135_393, q135_396, q135_397, q135_398, q135_399, q135_401, q135_402, q135_403, q135_405, q135_406, q135_408, q135_411, q135_414, q135_415, q135_418, q135_419, q135_420, q135_422, q135_423, q135_338 b7, i10, eq_self, ft0, ft1, b01_ft, k1r, k1i, xG_some, xH_some, xC_v, xC_n, if_true, if_false, not_true_eq_false, not_false_eq_true, ix_st, ix_st2, List.getElem?_cons_succ, List.getElem?_cons_zero, List.set_cons_succ, List.set_cons_zero, Value.category, List.map_cons, List.map_nil, List.sum_cons, List.sum_nil, Nat.reduceAdd, Nat.reduceLeDiff, Nat.reduceEqDiff, Nat.zero_le, reduceCtorEq, ↓reduceIte, eq_self, xit, e5, q2, r0, r1, r2, r3, m1, m2, is, k7, izI, w0, w1, w2, w3, w4, w5, w6]
    rfl
  | false =>
    rw [h] at m2
    have m2 : ∀ (F : Nat → Int32) d, xe (ixP fv) d 128 0 [some (.ref s), some (.int (nI p)), none, none] [] (H ++ [.inl (0, 7, .inl F)]) = some (.inl (some (.int 0)), H ++ [.inl (0, 7, .inl F)]) := m2
    simp only [q135_336, q135_340, q135_341, q135_342, q135_343, q135_346, q135_348, q135_349, q135_350, q135_351, q135_352, q135_353, q135_354, q135_355, q135_358, q135_360, q135_361, q135_362, q135_363, q135_364, q135_365, q135_366, q135_367, q135_370, q135_372, q135_373, q135_374, q135_375, q135_376, q135_377, q135_378, q135_379, q135_382, q135_384, q135_385, q135_386, q135_387, q135_388, q135_389, q135_390, q135_391, q135_393, q135_396, q135_397, q135_398, q135_399, q135_401, q135_402, q135_403, q135_405, q135_406, q135_408, q135_411, q135_414, q135_415, q135_418, q135_419, q135_420, q135_422, q135_423, q135_338 b7, i10, eq_self, ft0, ft1, b01_ft, k1r, k1i, xG_some, xH_some, xC_v, xC_n, if_true, if_false, not_true_eq_false, not_false_eq_true, ix_st, ix_st2, List.getElem?_cons_succ, List.getElem?_cons_zero, List.set_cons_succ, List.set_cons_zero, Value.category, List.map_cons, List.map_nil, List.sum_cons, List.sum_nil, Nat.reduceAdd, Nat.reduceLeDiff, Nat.reduceEqDiff, Nat.zero_le, reduceCtorEq, ↓reduceIte, eq_self, xit, e5, q2, r0, r1, r2, r3, m1, m2, is, k7, izI, w0, w1, w2, w3, w4, w5, w6]
    rfl
theorem s_pn1 (g : HI H b tp rd pl t t2 tb lea len Q A Z s K X D n M fb) (hp : p < n 2) (h2 : H[o]? = some (.inl (0, 7, .inl F))) (hF : ∀ j, j < 7 → F j = pv Q A M n p j) : ∀ r j, j + r = 7 → xe (ixP fv) (d + 9) 135 425 [some (.ref s), some (.ref b), some (.ref o2), some (.int y3), some (.int (nI p)), l5, some (.ref (o)), some (.int (nI j)), l8, l9] [] H = xe (ixP fv) (d + 9) 135 270 [some (.ref s), some (.ref b), some (.ref o2), some (.int y3), some (.int (nI (p + 1))), l5, some (.ref (o)), some (.int (nI 7)), l8, l9] [] H
  | 0, j, e => by
    have : j = 7 := by omega
    subst this
    have c1 : (7 : Int32) ≤ nI 7 := by decide
    have ep : nI p + 1 = nI (p + 1) := nI_add p 1
    simp only [q135_425 (x := nI 7), q135_427, q135_429, q135_456, q135_459, i10, eq_self, ft0, ft1, b01_ft, k1r, k1i, xG_some, xH_some, xC_v, xC_n, if_true, if_false, not_true_eq_false, not_false_eq_true, ix_st, ix_st2, List.getElem?_cons_succ, List.getElem?_cons_zero, List.set_cons_succ, List.set_cons_zero, Value.category, List.map_cons, List.map_nil, List.sum_cons, List.sum_nil, Nat.reduceAdd, Nat.reduceLeDiff, Nat.reduceEqDiff, Nat.zero_le, reduceCtorEq, ↓reduceIte, eq_self, xit, c1, ep]
  | r + 1, j, e => by
    have ih := s_pn1 g hp h2 hF r (j + 1) (by omega)
    refine Eq.trans ?_ ih
    have hj : j < 7 := by omega
    have c1 : ¬ (7 : Int32) ≤ nI j := show ¬ nI 7 ≤ nI j from nI_ge hj (by omega)
    have e1 := fun d => hwP (fv := fv) (d := d) g hp j hj
    have e2 : rA H o (nI j) = some (.int (pv Q A M n p j)) := by rw [rA_of h2 (in_big hj (by omega)), nI_clamp (by omega), hF j hj]
    have ek : nI j + 1 = nI (j + 1) := nI_add j 1
    simp only [q135_425 (x := nI j), q135_427, q135_429, q135_432, q135_433, q135_435, q135_437, q135_440, q135_442, q135_444, q135_445, q135_448, q135_449 (st := []), q135_450, q135_453, i10, eq_self, ft0, ft1, b01_ft, k1r, k1i, xG_some, xH_some, xC_v, xC_n, if_true, if_false, not_true_eq_false, not_false_eq_true, ix_st, ix_st2, List.getElem?_cons_succ, List.getElem?_cons_zero, List.set_cons_succ, List.set_cons_zero, Value.category, List.map_cons, List.map_nil, List.sum_cons, List.sum_nil, Nat.reduceAdd, Nat.reduceLeDiff, Nat.reduceEqDiff, Nat.zero_le, reduceCtorEq, ↓reduceIte, eq_self, xit, c1, e1, e2, ek, HI_is g]
theorem s_pane : ∀ (r p : Nat) (H : ix_H) (l5 l6 l7 l8 l9 : Option Value), p + r = n 2 → HI H b tp rd pl t t2 tb lea len Q A Z s K X D n M fb → ∃ H' l5' l6' l7' l8' l9', HI H' b tp rd pl t t2 tb lea len Q A Z s K X D n M fb ∧ H'.length = H.length + r ∧ ix_sz H' = ix_sz H + 7 * r ∧ xe (ixP fv) (d + 9) 135 270 [some (.ref s), some (.ref b), some (.ref o2), some (.int y3), some (.int (nI p)), l5, l6, l7, l8, l9] [] H = xe (ixP fv) (d + 9) 135 462 [some (.ref s), some (.ref b), some (.ref o2), some (.int y3), some (.int (nI (n 2))), l5', l6', l7', l8', l9'] [] H'
  | 0, p, H, l5, l6, l7, l8, l9, e, g => by
    have : p = n 2 := by omega
    subst this
    have n2 := hL2 (fv := fv) g
    have e5 := fun ty fin Y => hS5 (fv := fv) (ty := ty) (fin := fin) (Y := Y) g
    have c1 : nI (n 2) ≤ nI (n 2) := Int32.le_refl _
    refine ⟨H, l5, l6, l7, l8, l9, g, rfl, rfl, ?_⟩
    simp only [q135_270 (x := nI (n 2)), q135_272, q135_273, q135_276, q135_277, i10, eq_self, ft0, ft1, b01_ft, k1r, k1i, xG_some, xH_some, xC_v, xC_n, if_true, if_false, not_true_eq_false, not_false_eq_true, ix_st, ix_st2, List.getElem?_cons_succ, List.getElem?_cons_zero, List.set_cons_succ, List.set_cons_zero, Value.category, List.map_cons, List.map_nil, List.sum_cons, List.sum_nil, Nat.reduceAdd, Nat.reduceLeDiff, Nat.reduceEqDiff, Nat.zero_le, reduceCtorEq, ↓reduceIte, eq_self, xit, n2, e5, c1]
  | r + 1, p, H, l5, l6, l7, l8, l9, e, g => by
    have hp : p < n 2 := by omega
    have hn := HI_n g
    have n2 := hL2 (fv := fv) g
    have n4 := hL4 (fv := fv) g
    have e5 := fun ty fin Y => hS5 (fv := fv) (ty := ty) (fin := fin) (Y := Y) g
    have e7 := fun ty fin Y => hS7 (fv := fv) (ty := ty) (fin := fin) (Y := Y) g
    have c1 : ¬ nI (n 2) ≤ nI p := nI_ge hp (by omega)
    have s0 : xe (ixP fv) (d + 9) 135 270 [some (.ref s), some (.ref b), some (.ref o2), some (.int y3), some (.int (nI p)), l5, l6, l7, l8, l9] [] H = xe (ixP fv) (d + 9) 135 297 [some (.ref s), some (.ref b), some (.ref o2), some (.int y3), some (.int (nI p)), some (.int (0)), some (.ref (X 4)), some (.int (nI (n 4))), some (.int (nI 0)), l9] [] H := by
      simp only [q135_270 (x := nI p), q135_272, q135_273, q135_276, q135_277, q135_280, q135_281, q135_283, q135_284, q135_287, q135_289, q135_291, q135_292, q135_294, q135_295, i10, eq_self, ft0, ft1, b01_ft, k1r, k1i, xG_some, xH_some, xC_v, xC_n, if_true, if_false, not_true_eq_false, not_false_eq_true, ix_st, ix_st2, List.getElem?_cons_succ, List.getElem?_cons_zero, List.set_cons_succ, List.set_cons_zero, Value.category, List.map_cons, List.map_nil, List.sum_cons, List.sum_nil, Nat.reduceAdd, Nat.reduceLeDiff, Nat.reduceEqDiff, Nat.zero_le, reduceCtorEq, ↓reduceIte, eq_self, xit, n2, n4, e5, e7, c1]
      rfl
    obtain ⟨m9, s1⟩ := s_ca (fv := fv) (d := d) (p := p) (o2 := o2) (y3 := y3) g (n 4) 0 0 l9 (by omega)
    have s2 := s_pn0 (fv := fv) (d := d) (o2 := o2) (y3 := y3) (w := itr (fun c (a : Int32) => a + if M 4 c 0 = nI p then 1 else 0) 0 (n 4) 0) (l6 := some (.ref (X 4))) (l7 := some (.int (nI (n 4)))) (l8 := some (.int (nI (n 4)))) (l9 := m9) g hp
    have hca := ca_sum (p := p) g.2.1
    rw [hca] at s1 s2
    have g1 := HI_push g (l := [.inl (0, 7, .inl (upd (upd (upd (upd (upd (upd (upd (fun _ => 0) 0 (M 2 p 0)) 1 (M 2 p 1)) 2 (M 2 p 2)) 3 (M 2 p 3)) 4 (sLi M p)) 5 (caL Q A (nI p))) 6 (b01 (sFr M n (nI p)))))])
    have s3 := s_pn1 (fv := fv) (d := d) (o2 := o2) (y3 := y3) (l5 := some (.int (caL Q A (nI p)))) (l8 := some (.int (nI (n 4)))) (l9 := m9) g1 hp get_end (fun j hj => by
      rcases j with _ | _ | _ | _ | _ | _ | _ | j
      all_goals first | rfl | omega) 7 0 rfl
    obtain ⟨H', l5', l6', l7', l8', l9', g2, z1, z2, e2⟩ := s_pane r (p + 1) _ (some (.int (caL Q A (nI p)))) (some (.ref (H.length))) (some (.int (nI 7))) (some (.int (nI (n 4)))) m9 (by omega) g1
    refine ⟨H', l5', l6', l7', l8', l9', g2, ?_, ?_, s0.trans (s1.trans (s2.trans (s3.trans e2)))⟩
    · rw [z1, List.length_append]
      show H.length + 1 + r = _
      omega
    · rw [z2, ix_sz_push]
      show ix_sz H + 7 + 7 * r = _
      omega
end LAWS3
