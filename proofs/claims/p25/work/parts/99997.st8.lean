/-! THE START: the list, an order's text (written by gen99997.py). -/
section ST8
variable {fv : Value} {d : Nat} {h h' : ix_H} {o v v' s q w k m t r N : Nat} {xs : Nat → Int32} {l l' : List Int32} {X X' : Nat → Nat} {D D' : Nat → Nat → Nat} {n c : Nat → Nat} {M : Mm} {l5 l6 l7 l8 l9 l10 : Option Value} {a : Nat} {z9 : Int32}
theorem LB_v (g : LB N xs h o v l s X D n c (WM (cel xs N))) : 98 ≤ v ∧ v < h.length := by
  obtain ⟨cap, a, mb, e1, e2, e3, e4, e5, e6, e7⟩ := g.1
  exact ⟨e7, lt_of e2⟩
theorem r6 : WM (cel xs N) 6 k 0 = b01 (sc6 (cel xs N) k) ∧ WM (cel xs N) 6 k 2 = nI (blw (sX (cel xs N) k >>> (4 &&& 31)) 6) ∧ WM (cel xs N) 6 k 3 = nI (blw (sX (cel xs N) k >>> (5 &&& 31)) 130) ∧ WM (cel xs N) 6 k 4 = so6 (cel xs N) k ∧ WM (cel xs N) 6 k 5 = nI (blw (sY (cel xs N) k >>> (3 &&& 31)) 90) ∧ WM (cel xs N) 6 k 6 = nI (blw (sY (cel xs N) k >>> (5 &&& 31)) (n2 (cel xs N) + 2)) ∧ WM (cel xs N) 6 k 7 = nI (blw (sX (cel xs N) k >>> (6 &&& 31)) (n1 (cel xs N))) ∧ WM (cel xs N) 6 k 8 = nI (blw (sX (cel xs N) k >>> (3 &&& 31)) (n4 (cel xs N))) ∧ WM (cel xs N) 6 k 9 = nI (blw (sY (cel xs N) k >>> (2 &&& 31)) (n5 (cel xs N))) := ⟨rfl, rfl, rfl, rfl, rfl, rfl, rfl, rfl, rfl⟩
theorem r6_b : blw (sX (cel xs N) k >>> (4 &&& 31)) 6 < 6 ∧ blw (sX (cel xs N) k >>> (5 &&& 31)) 130 < 130 ∧ blw (sY (cel xs N) k >>> (3 &&& 31)) 90 < 130 ∧ blw (sY (cel xs N) k >>> (5 &&& 31)) (n2 (cel xs N) + 2) < 40 ∧ blw (sX (cel xs N) k >>> (6 &&& 31)) (n1 (cel xs N)) < n1 (cel xs N) ∧ blw (sX (cel xs N) k >>> (3 &&& 31)) (n4 (cel xs N)) < n4 (cel xs N) ∧ blw (sY (cel xs N) k >>> (2 &&& 31)) (n5 (cel xs N)) < n5 (cel xs N) := by
  have nb1 := n1_b (ce := (cel xs N))
  have nb2 := n2_b (ce := (cel xs N))
  have nb4 := n4_b (ce := (cel xs N))
  have nb5 := n5_b (ce := (cel xs N))
  have i1 := blw_lt (x := sX (cel xs N) k >>> (4 &&& 31)) (m := 6) (by decide)
  have i2 := blw_lt (x := sX (cel xs N) k >>> (5 &&& 31)) (m := 130) (by decide)
  have i3 := blw_lt (x := sY (cel xs N) k >>> (3 &&& 31)) (m := 90) (by decide)
  have i4 := blw_lt (x := sY (cel xs N) k >>> (5 &&& 31)) (m := n2 (cel xs N) + 2) (by omega)
  exact ⟨i1, i2, by omega, by omega, blw_lt (by omega), blw_lt (by omega), blw_lt (by omega)⟩
/-- what is done -/
theorem t6_a (g : LB N xs h o v l s X D n c (WM (cel xs N))) (hk : k < c 6) (hD : D 6 k = a) (hl : l.length ≤ 1500) : ∃ h' v', LB N xs h' o v' (l ++ (if sc6 (cel xs N) k = true then sK 44 ++ dgt (wh6 (cel xs N) k) else sK 45 ++ dgt (wh6 (cel xs N) k) ++ sK 46 ++ (smT (blw (sX (cel xs N) k >>> (4 &&& 31)) 6) (blw (sX (cel xs N) k >>> (5 &&& 31)) 130) (blw (sY (cel xs N) k >>> (5 &&& 31)) (n2 (cel xs N) + 2)) (blw (sX (cel xs N) k >>> (3 &&& 31)) (n4 (cel xs N))) (blw (sY (cel xs N) k >>> (2 &&& 31)) (n5 (cel xs N)))))) s X D n c (WM (cel xs N)) ∧ h'.length ≤ h.length + 40 ∧ ix_sz h' ≤ ix_sz h + 80000 ∧ xe (ixP fv) (d + 9) 172 1054 [some (.ref 0), some (.ref (o)), some (.ref (s)), some (.int (nI (n2 (cel xs N)))), some (.int (nI k)), some (.int (sX (cel xs N) k)), some (.int (sY (cel xs N) k)), some (.int (b01 (sc6 (cel xs N) k))), some (.int (nI (wh6 (cel xs N) k))), some (.int (z9)), some (.ref (a))] [.ref o] h = xe (ixP fv) (d + 9) 172 1118 [some (.ref 0), some (.ref (o)), some (.ref (s)), some (.int (nI (n2 (cel xs N)))), some (.int (nI k)), some (.int (sX (cel xs N) k)), some (.int (sY (cel xs N) k)), some (.int (b01 (sc6 (cel xs N) k))), some (.int (nI (wh6 (cel xs N) k))), some (.int (z9)), some (.ref (a))] [.ref o] h' := by
  have wb := wh6_b (ce := (cel xs N)) (k := k)
  have dl := dgt_len (n := wh6 (cel xs N) k)
  have hv := LB_v g
  have is0 := LB_is (fv := fv) g
  obtain ⟨h1, eN, g1, z1, y1⟩ := SN_new (fv := fv) (d := d + 7) g.2.1 g.2.2.1
  have isN : ix_is (ixP fv) (h ++ [.inr (9, [defaultValue (.array .byte), defaultValue .byte, defaultValue .boolean, defaultValue .int])]) h.length "java/lang/StringBuilder" = true := is_of get_end (by decide +kernel)
  have is1 := SN_is (fv := fv) g1
  have c88 : (([.ref o] : List Value).map Value.category).sum ≤ 8 := Nat.le_of_ble_eq_true rfl
  have c89 : (([.ref h.length, .ref o] : List Value).map Value.category).sum ≤ 8 := Nat.le_of_ble_eq_true rfl
  cases hsc : sc6 (cel xs N) k with
  | true =>
    rw [if_pos rfl, b01_t]
    obtain ⟨h2, v2, e2, g2, z2, y2⟩ := SN_app (fv := fv) (d := d + 4) (k := 44) g1 (by decide) (by rw [lK44]; simp)
    have e2 : xe (ixP fv) (d + 4 + 4) 157 0 [some (.ref h.length), some (.ref 89)] [] h1 = some (.inl (some (.ref h.length)), h2) := e2
    obtain ⟨h3, v3, e3, g3, z3, y3⟩ := SN_int (fv := fv) (d := d + 4) (m := wh6 (cel xs N) k) g2 (by omega) (by simp only [List.length_append, List.length_nil, lK44]; omega)
    have ln : ([] ++ sK 44 ++ dgt (wh6 (cel xs N) k)).length ≤ 20 := by simp only [List.length_append, List.length_nil, lK44]; omega
    obtain ⟨h4, eT, gT, zT, yT⟩ := SN_str (fv := fv) (d := d + 3) g3 (by omega)
    have g4 := LB_ext g gT.2.2.1 gT.2.2.2.1
    obtain ⟨h5, v5, e5, g5, z5, y5⟩ := LB_apq (fv := fv) (d := d + 4) g4 gT.1 (by rcases gT.2.2.2.2 with h | h <;> omega) (by omega)
    have is2 := SN_is (fv := fv) g2
    have is3 := SN_is (fv := fv) g3
    have is4 := LB_is (fv := fv) g4
    refine ⟨h5, v5, g5, by omega, by omega, ?_⟩
    simp only [q172_1054, q172_1056, q172_1059, q172_1062, q172_1066, q172_1068, q172_1071, q172_1073, q172_1076, q172_1079, q172_1063 c89, q172_1115, i10, eq_self, ft0, ft1, b01_ft, k1r, k1i, xG_some, xH_some, xC_v, xC_n, if_true, if_false, not_true_eq_false, not_false_eq_true, ix_st, ix_st2, List.getElem?_cons_succ, List.getElem?_cons_zero, List.set_cons_succ, List.set_cons_zero, Value.category, List.map_cons, List.map_nil, List.sum_cons, List.sum_nil, Nat.reduceAdd, Nat.reduceLeDiff, Nat.reduceEqDiff, Nat.zero_le, reduceCtorEq, ↓reduceIte, eq_self, xit, isN, eN, is1, is2, is3, is4, e2, e3, eT, e5]
  | false =>
    rw [if_neg (show ¬ false = true by decide), b01_f]
    have rr := (g.2.2.2.2.2.1 6 k (by decide) (by decide) hk).2
    rw [hD] at rr
    obtain ⟨i1, i2, i3, i4, i5, i6, i7, i8, i9⟩ := r6 (xs := xs) (N := N) (k := k)
    obtain ⟨j1, j2, j3, j4, j5, j6, j7⟩ := r6_b (xs := xs) (N := N) (k := k)
    have nb4 := n4_b (ce := (cel xs N))
    have nb5 := n5_b (ce := (cel xs N))
    obtain ⟨h2, v2, e2, g2, z2, y2⟩ := SN_app (fv := fv) (d := d + 4) (k := 45) g1 (by decide) (by rw [lK45]; simp)
    have e2 : xe (ixP fv) (d + 4 + 4) 157 0 [some (.ref h.length), some (.ref 91)] [] h1 = some (.inl (some (.ref h.length)), h2) := e2
    obtain ⟨h3, v3, e3, g3, z3, y3⟩ := SN_int (fv := fv) (d := d + 4) (m := wh6 (cel xs N) k) g2 (by omega) (by simp only [List.length_append, List.length_nil, lK45]; omega)
    obtain ⟨h4, v4, e4, g4, z4, y4⟩ := SN_app (fv := fv) (d := d + 4) (k := 46) g3 (by decide) (by simp only [List.length_append, List.length_nil, lK45, lK46]; omega)
    have e4 : xe (ixP fv) (d + 4 + 4) 157 0 [some (.ref h.length), some (.ref 93)] [] h3 = some (.inl (some (.ref h.length)), h4) := e4
    have rr4 := (g4.2.2.2.1 a (lt_of rr)).trans rr
    have l4 := g4.2.2.1
    obtain ⟨h5, q5, w5, e5, s5, z5, y5⟩ := m170 (fv := fv) (d := d) (b := h4) (R := WM (cel xs N) 6 k) g4.2.1 (by omega) rr4 i2 j1 i3 j2 i6 (by omega) i8 (by omega) i9 (by omega)
    have sl := smT_len (a2 := blw (sX (cel xs N) k >>> (4 &&& 31)) 6) (a3 := blw (sX (cel xs N) k >>> (5 &&& 31)) 130) (a6 := blw (sY (cel xs N) k >>> (5 &&& 31)) (n2 (cel xs N) + 2)) (a8 := blw (sX (cel xs N) k >>> (3 &&& 31)) (n4 (cel xs N))) (a9 := blw (sY (cel xs N) k >>> (2 &&& 31)) (n5 (cel xs N)))
    have g5 := SN_ext g4 s5.2.1 s5.2.2.1 s5.2.2.2.1
    have v4l := SN_v g4
    have v4h : 98 ≤ v4 := by have := g4.2.2.2.2.2.1; omega
    obtain ⟨h6, v6, e6, g6, z6, y6⟩ := SN_apq (fv := fv) (d := d + 4) g5 s5.1 (by rcases s5.2.2.2.2 with h | h <;> omega) (by simp only [List.length_append, List.length_nil, lK45, lK46]; omega)
    have ln : ([] ++ sK 45 ++ dgt (wh6 (cel xs N) k) ++ sK 46 ++ (smT (blw (sX (cel xs N) k >>> (4 &&& 31)) 6) (blw (sX (cel xs N) k >>> (5 &&& 31)) 130) (blw (sY (cel xs N) k >>> (5 &&& 31)) (n2 (cel xs N) + 2)) (blw (sX (cel xs N) k >>> (3 &&& 31)) (n4 (cel xs N))) (blw (sY (cel xs N) k >>> (2 &&& 31)) (n5 (cel xs N))))).length ≤ 100 := by simp only [List.length_append, List.length_nil, lK45, lK46]; omega
    obtain ⟨h7, eT, gT, zT, yT⟩ := SN_str (fv := fv) (d := d + 3) g6 (by omega)
    have g7 := LB_ext g gT.2.2.1 gT.2.2.2.1
    obtain ⟨h8, v8, e8, g8, z8, y8⟩ := LB_apq (fv := fv) (d := d + 4) g7 gT.1 (by rcases gT.2.2.2.2 with h | h <;> omega) (by omega)
    have is2 := SN_is (fv := fv) g2
    have is3 := SN_is (fv := fv) g3
    have is4 := SN_is (fv := fv) g4
    have is5 := SN_is (fv := fv) g5
    have is6 := SN_is (fv := fv) g6
    have is7 := LB_is (fv := fv) g7
    refine ⟨h8, v8, g8, by omega, by omega, ?_⟩
    simp only [q172_1054, q172_1056, q172_1082, q172_1085, q172_1089, q172_1091, q172_1094, q172_1096, q172_1099, q172_1101, q172_1104, q172_1106, q172_1109, q172_1112, q172_1115, q172_1086 c89, i10, eq_self, ft0, ft1, b01_ft, k1r, k1i, xG_some, xH_some, xC_v, xC_n, if_true, if_false, not_true_eq_false, not_false_eq_true, ix_st, ix_st2, List.getElem?_cons_succ, List.getElem?_cons_zero, List.set_cons_succ, List.set_cons_zero, Value.category, List.map_cons, List.map_nil, List.sum_cons, List.sum_nil, Nat.reduceAdd, Nat.reduceLeDiff, Nat.reduceEqDiff, Nat.zero_le, reduceCtorEq, ↓reduceIte, eq_self, xit, isN, eN, is1, is2, is3, is4, is5, is6, is7, e2, e3, e4, e5, e6, eT, e8]
/-- when -/
theorem t6_b (g : LB N xs h o v l s X D n c (WM (cel xs N))) (hk : k < c 6) (hD : D 6 k = a) (hl : l.length ≤ 1600) : ∃ h' v', LB N xs h' o v' (l ++ (teT (a46 (cel xs N) k) (blw (sY (cel xs N) k >>> (3 &&& 31)) 90) (blw (sY (cel xs N) k >>> (5 &&& 31)) (n2 (cel xs N) + 2)) (blw (sX (cel xs N) k >>> (6 &&& 31)) (n1 (cel xs N))) (blw (sX (cel xs N) k >>> (3 &&& 31)) (n4 (cel xs N))) (blw (sY (cel xs N) k >>> (2 &&& 31)) (n5 (cel xs N)))) ++ sK 32) s X D n c (WM (cel xs N)) ∧ h'.length ≤ h.length + 40 ∧ ix_sz h' ≤ ix_sz h + 80000 ∧ xe (ixP fv) (d + 9) 172 1118 [some (.ref 0), some (.ref (o)), some (.ref (s)), some (.int (nI (n2 (cel xs N)))), some (.int (nI k)), some (.int (sX (cel xs N) k)), some (.int (sY (cel xs N) k)), some (.int (b01 (sc6 (cel xs N) k))), some (.int (nI (wh6 (cel xs N) k))), some (.int (z9)), some (.ref (a))] [.ref o] h = xe (ixP fv) (d + 9) 172 790 [some (.ref 0), some (.ref (o)), some (.ref (s)), some (.int (nI (n2 (cel xs N)))), some (.int (nI (k + 1))), some (.int (sX (cel xs N) k)), some (.int (sY (cel xs N) k)), some (.int (b01 (sc6 (cel xs N) k))), some (.int (nI (wh6 (cel xs N) k))), some (.int (z9)), some (.ref (a))] [] h' := by
  have hv := LB_v g
  have rr := (g.2.2.2.2.2.1 6 k (by decide) (by decide) hk).2
  rw [hD] at rr
  obtain ⟨i1, i2, i3, i4, i5, i6, i7, i8, i9⟩ := r6 (xs := xs) (N := N) (k := k)
  obtain ⟨j1, j2, j3, j4, j5, j6, j7⟩ := r6_b (xs := xs) (N := N) (k := k)
  have nb1 := n1_b (ce := (cel xs N))
  have nb4 := n4_b (ce := (cel xs N))
  have nb5 := n5_b (ce := (cel xs N))
  have so := so6_eq (ce := (cel xs N)) (k := k)
  obtain ⟨h5, q5, w5, e5, s5, z5, y5⟩ := m171 (fv := fv) (d := d) (b := h) (R := WM (cel xs N) 6 k) g.2.1 g.2.2.1 rr (i4.trans so.1) so.2 i5 (by omega) i6 (by omega) i7 (by omega) i8 (by omega) i9 (by omega)
  have tl := teT_len (a4 := a46 (cel xs N) k) (a5 := blw (sY (cel xs N) k >>> (3 &&& 31)) 90) (a6 := blw (sY (cel xs N) k >>> (5 &&& 31)) (n2 (cel xs N) + 2)) (a7 := blw (sX (cel xs N) k >>> (6 &&& 31)) (n1 (cel xs N))) (a8 := blw (sX (cel xs N) k >>> (3 &&& 31)) (n4 (cel xs N))) (a9 := blw (sY (cel xs N) k >>> (2 &&& 31)) (n5 (cel xs N)))
  have g5 := LB_ext g s5.2.2.1 s5.2.2.2.1
  obtain ⟨h6, v6, e6, g6, z6, y6⟩ := LB_apq (fv := fv) (d := d + 4) g5 s5.1 (by rcases s5.2.2.2.2 with h | h <;> omega) (by omega)
  obtain ⟨h7, v7, e7, g7, z7, y7⟩ := LB_app (fv := fv) (d := d + 4) (k := 32) g6 (by decide) (by simp only [List.length_append, lK32]; omega)
  have e7 : xe (ixP fv) (d + 4 + 4) 157 0 [some (.ref o), some (.ref 65)] [] h6 = some (.inl (some (.ref o)), h7) := e7
  have is5 := LB_is (fv := fv) g5
  have is6 := LB_is (fv := fv) g6
  have ek : nI k + 1 = nI (k + 1) := nI_add k 1
  have c88 : (([.ref o] : List Value).map Value.category).sum ≤ 8 := Nat.le_of_ble_eq_true rfl
  refine ⟨h7, v7, g7, by omega, by omega, ?_⟩
  simp only [q172_1118, q172_1120, q172_1123, q172_1126, q172_1128, q172_1131, q172_1132, q172_1135, i10, eq_self, ft0, ft1, b01_ft, k1r, k1i, xG_some, xH_some, xC_v, xC_n, if_true, if_false, not_true_eq_false, not_false_eq_true, ix_st, ix_st2, List.getElem?_cons_succ, List.getElem?_cons_zero, List.set_cons_succ, List.set_cons_zero, Value.category, List.map_cons, List.map_nil, List.sum_cons, List.sum_nil, Nat.reduceAdd, Nat.reduceLeDiff, Nat.reduceEqDiff, Nat.zero_le, reduceCtorEq, ↓reduceIte, eq_self, xit, is5, is6, e5, e6, e7, ek]
end ST8
