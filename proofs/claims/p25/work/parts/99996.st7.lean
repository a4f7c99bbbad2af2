/-! THE START: the list, orders (written by gen99996.py). -/
def a46 (ce : Nat → Int32) (k : Nat) : Nat := if blw (sY ce k) 11 < 3 then (if sc6 ce k = true then 7 else 8) else blw (sY ce k) 11 - 3
theorem so6_eq {ce : Nat → Int32} {k : Nat} : so6 ce k = (if a46 ce k = 8 then -1 else nI (a46 ce k)) ∧ a46 ce k ≤ 8 := by
  have hb := blw_lt (x := sY ce k) (m := 11) (by decide)
  unfold so6 a46
  generalize blw (sY ce k) 11 = z at hb
  by_cases c : z < 3
  · rw [if_pos c, if_pos (show nI z - 3 < 0 by rw [Int32.lt_iff_toInt_lt, show (nI z - 3).toInt = (z : Int) - 3 from pk_sub_toInt (a := z) (b := 3) (by omega) (by decide)]; show _ < (0 : Int); omega)]
    cases sc6 ce k <;> decide
  · have e : nI z - 3 = nI (z - 3) := pk_sub (a := z) (b := 3) (by omega)
    rw [if_neg c, e, if_neg (show ¬ nI (z - 3) < 0 from nI_pos (by omega)), if_neg (show ¬ z - 3 = 8 by omega)]
    exact ⟨rfl, by omega⟩
/-- an order's line -/
def tx6 (ce : Nat → Int32) (l : List Int32) (k : Nat) : List Int32 := l ++ (if sc6 ce k = true then sK 44 ++ dgt (wh6 ce k) else sK 45 ++ dgt (wh6 ce k) ++ sK 46 ++ (smT (blw (sX ce k >>> (4 &&& 31)) 6) (blw (sX ce k >>> (5 &&& 31)) 130) (blw (sY ce k >>> (5 &&& 31)) (n2 ce + 2)) (blw (sX ce k >>> (3 &&& 31)) (n4 ce)) (blw (sY ce k >>> (2 &&& 31)) (n5 ce)))) ++ (teT (a46 ce k) (blw (sY ce k >>> (3 &&& 31)) 90) (blw (sY ce k >>> (5 &&& 31)) (n2 ce + 2)) (blw (sX ce k >>> (6 &&& 31)) (n1 ce)) (blw (sX ce k >>> (3 &&& 31)) (n4 ce)) (blw (sY ce k >>> (2 &&& 31)) (n5 ce))) ++ sK 32
section ST7
variable {fv : Value} {d : Nat} {h h' : ix_H} {o v v' s q w k m t r N : Nat} {xs : Nat → Int32} {l l' : List Int32} {X X' : Nat → Nat} {D D' : Nat → Nat → Nat} {n c : Nat → Nat} {M : Mm} {l5 l6 l7 l8 l9 l10 : Option Value}
theorem wh6_b {ce : Nat → Int32} {k : Nat} : wh6 ce k < 3 := by
  have := n4_b (ce := ce)
  have := n5_b (ce := ce)
  unfold wh6
  split
  · have := blw_lt (x := sX ce k >>> (2 &&& 31)) (m := n5 ce) (by omega)
    omega
  · have := blw_lt (x := sX ce k >>> (2 &&& 31)) (m := n4 ce) (by omega)
    omega
theorem ce_i {z : Nat} (hO : OK N xs h) (hN : N ≤ 300) (hz : z < 300) : ∀ d, xe (ixP fv) d 168 0 [some (.ref 0), some (.int (nI z))] [] h = some (.inl (some (.int ((cel xs N) z))), h) := fun d => m168 (fv := fv) (d := d) (k := z) (OK_0 hO) hN hz
set_option maxHeartbeats 8000000 in
/-- the row of an order -/
theorem t6_row (g : LB N xs h o v l s X D n c (WM (cel xs N))) (hc : c 6 = k) (hk : k < n 6) (hn : n 6 ≤ 7) (hN : N ≤ 300) (h1 : n 1 = n1 (cel xs N)) (h4 : n 4 = n4 (cel xs N)) (h5 : n 5 = n5 (cel xs N)) : ∃ h2, LB N xs h2 o v l s X (upR D 6 k h.length) n (upT c 6 (k + 1)) (WM (cel xs N)) ∧ h2[h.length]? = some (.inl (0, 10, .inl (WM (cel xs N) 6 k))) ∧ h2.length = h.length + 1 ∧ ix_sz h2 = ix_sz h + 10 ∧ xe (ixP fv) (d + 9) 172 790 [some (.ref 0), some (.ref (o)), some (.ref (s)), some (.int (nI (n2 (cel xs N)))), some (.int (nI k)), l5, l6, l7, l8, l9, l10] [] h = xe (ixP fv) (d + 9) 172 1054 [some (.ref 0), some (.ref (o)), some (.ref (s)), some (.int (nI (n2 (cel xs N)))), some (.int (nI k)), some (.int (sX (cel xs N) k)), some (.int (sY (cel xs N) k)), some (.int (b01 (sc6 (cel xs N) k))), some (.int (nI (wh6 (cel xs N) k))), some (.int (nI (blw (sY (cel xs N) k) 11) - 3)), some (.ref (h.length))] [.ref o] h2 := by
  have nb1 := n1_b (ce := (cel xs N))
  have nb2 := n2_b (ce := (cel xs N))
  have nb4 := n4_b (ce := (cel xs N))
  have nb5 := n5_b (ce := (cel xs N))
  obtain ⟨h2, eW, g2, hrow, z2, y2⟩ : ∃ h2, wQ (ixP fv) (h ++ [.inl (0, 10, .inl (upd (upd (upd (upd (upd (upd (upd (upd (upd (upd (fun _ => 0) 0 (b01 (sc6 (cel xs N) k))) 1 (nI (wh6 (cel xs N) k))) 2 (nI (blw (sX (cel xs N) k >>> (4 &&& 31)) 6))) 3 (nI (blw (sX (cel xs N) k >>> (5 &&& 31)) 130))) 4 (so6 (cel xs N) k)) 5 (nI (blw (sY (cel xs N) k >>> (3 &&& 31)) 90))) 6 (nI (blw (sY (cel xs N) k >>> (5 &&& 31)) (n2 (cel xs N) + 2)))) 7 (nI (blw (sX (cel xs N) k >>> (6 &&& 31)) (n1 (cel xs N))))) 8 (nI (blw (sX (cel xs N) k >>> (3 &&& 31)) (n4 (cel xs N))))) 9 (nI (blw (sY (cel xs N) k >>> (2 &&& 31)) (n5 (cel xs N))))))]) (X 6) (nI k) h.length = some h2 ∧ LB N xs h2 o v l s X (upR D 6 k h.length) n (upT c 6 (k + 1)) (WM (cel xs N)) ∧ h2[h.length]? = some (.inl (0, 10, .inl (WM (cel xs N) 6 k))) ∧ h2.length = h.length + 1 ∧ ix_sz h2 = ix_sz h + 10 := by
    have hx := LB_row (fv := fv) g (t := 6) (r := k) (by decide) (by decide) hc hk
    have hr := hx.2.2.2.2.2.2.1 6 k (by decide) (by decide) (by rw [upT_e]; exact Nat.lt_succ_self k)
    rw [upR_e] at hr
    exact ⟨_, hx.1, hx.2, hr.2, LB_row2 g (by decide) (by decide)⟩
  refine ⟨h2, g2, hrow, z2, y2, ?_⟩
  have hf6 := fun ty fin Y => LB_f6 (fv := fv) (ty := ty) (fin := fin) (Y := Y) g
  have hf5 := fun ty fin Y => LB_f5 (fv := fv) (ty := ty) (fin := fin) (Y := Y) g
  have hf4 := fun ty fin Y => LB_f4 (fv := fv) (ty := ty) (fin := fin) (Y := Y) g
  have hn6 := LB_n (fv := fv) (t := 6) g (by decide) (by decide)
  have hn5 := LB_n (fv := fv) (t := 5) g (by decide) (by decide)
  have hn4 := LB_n (fv := fv) (t := 4) g (by decide) (by decide)
  have gp := fun (F : Nat → Int32) => LB_push g (x := .inl (0, 10, .inl F))
  have pf1 := fun F ty fin Y => LB_f1 (fv := fv) (ty := ty) (fin := fin) (Y := Y) (gp F)
  have pf4 := fun F ty fin Y => LB_f4 (fv := fv) (ty := ty) (fin := fin) (Y := Y) (gp F)
  have pf5 := fun F ty fin Y => LB_f5 (fv := fv) (ty := ty) (fin := fin) (Y := Y) (gp F)
  have pf6 := fun F ty fin Y => LB_f6 (fv := fv) (ty := ty) (fin := fin) (Y := Y) (gp F)
  have pn1 := fun F => LB_n (fv := fv) (t := 1) (gp F) (by decide) (by decide)
  have pn4 := fun F => LB_n (fv := fv) (t := 4) (gp F) (by decide) (by decide)
  have pn5 := fun F => LB_n (fv := fv) (t := 5) (gp F) (by decide) (by decide)
  rw [h5] at hn5
  rw [h4] at hn4
  simp only [h1] at pn1
  simp only [h4] at pn4
  simp only [h5] at pn5
  have hc1 : ¬ nI (n 6) ≤ nI k := nI_ge hk (by omega)
  have w0 : ∀ (F : Nat → Int32) (x : Int32), wA (ixP fv) (h ++ [.inl (0, 10, .inl F)]) h.length 0 x = some (h ++ [.inl (0, 10, .inl (upd F 0 x))]) := fun F x => wE (j := 0) g.2.2.1 (by decide) (by decide)
  have w1 : ∀ (F : Nat → Int32) (x : Int32), wA (ixP fv) (h ++ [.inl (0, 10, .inl F)]) h.length 1 x = some (h ++ [.inl (0, 10, .inl (upd F 1 x))]) := fun F x => wE (j := 1) g.2.2.1 (by decide) (by decide)
  have w2 : ∀ (F : Nat → Int32) (x : Int32), wA (ixP fv) (h ++ [.inl (0, 10, .inl F)]) h.length 2 x = some (h ++ [.inl (0, 10, .inl (upd F 2 x))]) := fun F x => wE (j := 2) g.2.2.1 (by decide) (by decide)
  have w3 : ∀ (F : Nat → Int32) (x : Int32), wA (ixP fv) (h ++ [.inl (0, 10, .inl F)]) h.length 3 x = some (h ++ [.inl (0, 10, .inl (upd F 3 x))]) := fun F x => wE (j := 3) g.2.2.1 (by decide) (by decide)
  have w4 : ∀ (F : Nat → Int32) (x : Int32), wA (ixP fv) (h ++ [.inl (0, 10, .inl F)]) h.length 4 x = some (h ++ [.inl (0, 10, .inl (upd F 4 x))]) := fun F x => wE (j := 4) g.2.2.1 (by decide) (by decide)
  have w5 : ∀ (F : Nat → Int32) (x : Int32), wA (ixP fv) (h ++ [.inl (0, 10, .inl F)]) h.length 5 x = some (h ++ [.inl (0, 10, .inl (upd F 5 x))]) := fun F x => wE (j := 5) g.2.2.1 (by decide) (by decide)
  have w6 : ∀ (F : Nat → Int32) (x : Int32), wA (ixP fv) (h ++ [.inl (0, 10, .inl F)]) h.length 6 x = some (h ++ [.inl (0, 10, .inl (upd F 6 x))]) := fun F x => wE (j := 6) g.2.2.1 (by decide) (by decide)
  have w7 : ∀ (F : Nat → Int32) (x : Int32), wA (ixP fv) (h ++ [.inl (0, 10, .inl F)]) h.length 7 x = some (h ++ [.inl (0, 10, .inl (upd F 7 x))]) := fun F x => wE (j := 7) g.2.2.1 (by decide) (by decide)
  have w8 : ∀ (F : Nat → Int32) (x : Int32), wA (ixP fv) (h ++ [.inl (0, 10, .inl F)]) h.length 8 x = some (h ++ [.inl (0, 10, .inl (upd F 8 x))]) := fun F x => wE (j := 8) g.2.2.1 (by decide) (by decide)
  have w9 : ∀ (F : Nat → Int32) (x : Int32), wA (ixP fv) (h ++ [.inl (0, 10, .inl F)]) h.length 9 x = some (h ++ [.inl (0, 10, .inl (upd F 9 x))]) := fun F x => wE (j := 9) g.2.2.1 (by decide) (by decide)
  have b4 : ∀ (h : ix_H) (d : Nat) (y : Int32), xe (ixP fv) d 167 0 [some (.int y), some (.int 4)] [] h = some (.inl (some (.int (nI (blw y 4)))), h) := e167 (m := 4) (by decide) (by decide)
  have b11 : ∀ (h : ix_H) (d : Nat) (y : Int32), xe (ixP fv) d 167 0 [some (.int y), some (.int 11)] [] h = some (.inl (some (.int (nI (blw y 11)))), h) := e167 (m := 11) (by decide) (by decide)
  have b6 : ∀ (h : ix_H) (d : Nat) (y : Int32), xe (ixP fv) d 167 0 [some (.int y), some (.int 6)] [] h = some (.inl (some (.int (nI (blw y 6)))), h) := e167 (m := 6) (by decide) (by decide)
  have b130 : ∀ (h : ix_H) (d : Nat) (y : Int32), xe (ixP fv) d 167 0 [some (.int y), some (.int 130)] [] h = some (.inl (some (.int (nI (blw y 130)))), h) := e167 (m := 130) (by decide) (by decide)
  have b90 : ∀ (h : ix_H) (d : Nat) (y : Int32), xe (ixP fv) d 167 0 [some (.int y), some (.int 90)] [] h = some (.inl (some (.int (nI (blw y 90)))), h) := e167 (m := 90) (by decide) (by decide)
  have bn1 := e167 (fv := fv) (m := n1 (cel xs N)) (by omega) (by omega)
  have bn2 := e167 (fv := fv) (m := n2 (cel xs N) + 2) (by omega) (by omega)
  have bn4 := e167 (fv := fv) (m := n4 (cel xs N)) (by omega) (by omega)
  have bn5 := e167 (fv := fv) (m := n5 (cel xs N)) (by omega) (by omega)
  have a2 : nI (n2 (cel xs N)) + 2 = nI (n2 (cel xs N) + 2) := nI_add _ 2
  have c3 : (3 : Int32) ≠ 0 := by decide
  have c4 : (4 : Int32) ≠ 0 := by decide
  have m3 : nI k - nI k / 3 * 3 = nI (k % 3) := by
    show nI k - nI k / nI 3 * nI 3 = _
    rw [pk_div (a := k) (d := 3) (by omega) (by omega) (by omega), pk_mul, pk_sub (Nat.div_mul_le_self k 3)]
    congr 1
    omega
  have m4 : nI k - nI k / 4 * 4 = nI (k % 4) := by
    show nI k - nI k / nI 4 * nI 4 = _
    rw [pk_div (a := k) (d := 4) (by omega) (by omega) (by omega), pk_mul, pk_sub (Nat.div_mul_le_self k 4)]
    congr 1
    omega
  have d9 : ∀ z : Nat, 9 + nI z = nI (9 + z) := fun z => nI_add 9 z
  have d12 : ∀ z : Nat, 12 + nI z = nI (12 + z) := fun z => nI_add 12 z
  have e9 := ce_i (fv := fv) (z := 9 + k % 3) g.2.1 hN (by omega)
  have e12 := ce_i (fv := fv) (z := 12 + k % 4) g.2.1 hN (by omega)
  have sx : ((cel xs N) (9 + k % 3) >>> (nI k / 3 * 8 &&& 31)) = sX (cel xs N) k := rfl
  have sy : ((cel xs N) (12 + k % 4) >>> (nI k / 4 * 9 &&& 31)) = sY (cel xs N) k := rfl
  have kk : (10 : Int32).toNatClampNeg = 10 := nI_clamp (n := 10) (by decide)
  have bb : ix_big 10 = true := bg (m := 10) (by decide)
  have es : ∀ z, sc6 (cel xs N) k = z → wh6 (cel xs N) k = blw (sX (cel xs N) k >>> (2 &&& 31)) (if z = true then n5 (cel xs N) else n4 (cel xs N)) := fun z e => by rw [← e]; rfl
  have eo : ∀ z, sc6 (cel xs N) k = z → so6 (cel xs N) k = if nI (blw (sY (cel xs N) k) 11) - 3 < 0 then (if z = true then 7 else -1) else nI (blw (sY (cel xs N) k) 11) - 3 := fun z e => by rw [← e]; rfl
  by_cases cs : nI (blw (sX (cel xs N) k) 4) = 0
  · have hsc : sc6 (cel xs N) k = true := decide_eq_true cs
    have es := es true hsc
    have eo := eo true hsc
    rw [if_pos rfl] at es eo
    rw [hsc, b01_t] at eW
    rw [hsc, b01_t]
    by_cases cn : nI (blw (sY (cel xs N) k) 11) - 3 < 0
    · rw [if_pos cn] at eo
      rw [eo, es] at eW
      rw [es]
      have cn2 : ¬ 0 ≤ nI (blw (sY (cel xs N) k) 11) - 3 := Int32.not_le.mpr cn
      simp only [q172_790 (x := nI k), q172_792, q172_793, q172_796, q172_797, q172_800, q172_801, q172_803, q172_805, q172_807, q172_808, q172_811, q172_813, q172_815, q172_817, q172_818, q172_819, q172_821, q172_822, q172_824, q172_826, q172_828, q172_829, q172_832, q172_834, q172_836, q172_838, q172_839, q172_840, q172_842, q172_844, q172_845, q172_848, q172_851, q172_852, q172_855, q172_856, q172_858, q172_860, q172_861, q172_862, q172_864, q172_867, q172_868, q172_871, q172_872, q172_875, q172_876, q172_879, q172_880, q172_883, q172_885, q172_887, q172_889, q172_892, q172_893, q172_894, q172_896, q172_900, q172_901, q172_902, q172_904, q172_907, q172_908, q172_911, q172_912, q172_913, q172_914, q172_915, q172_917, q172_918, q172_919, q172_920, q172_922, q172_923, q172_924, q172_926, q172_929, q172_930, q172_931, q172_932, q172_934, q172_935, q172_936, q172_939, q172_942, q172_943, q172_944, q172_945, q172_947, q172_950, q172_952, q172_955, q172_957, q172_960, q172_961, q172_964, q172_966, q172_967, q172_968, q172_969, q172_971, q172_972, q172_973, q172_975, q172_978, q172_979, q172_980, q172_982, q172_984, q172_985, q172_986, q172_987, q172_988, q172_989, q172_992, q172_993, q172_994, q172_996, q172_998, q172_1000, q172_1001, q172_1002, q172_1005, q172_1006, q172_1009, q172_1010, q172_1011, q172_1013, q172_1015, q172_1016, q172_1017, q172_1018, q172_1021, q172_1022, q172_1025, q172_1026, q172_1027, q172_1029, q172_1031, q172_1032, q172_1033, q172_1034, q172_1037, q172_1038, q172_1041, q172_1042, q172_1044, q172_1045, q172_1048, q172_1050, q172_1052, q172_1053, q172_806 c3, q172_814 c3, q172_827 c4, q172_835 c4, q172_898 bb, i10, eq_self, ft0, ft1, b01_ft, k1r, k1i, xG_some, xH_some, xC_v, xC_n, if_true, if_false, not_true_eq_false, not_false_eq_true, ix_st, ix_st2, List.getElem?_cons_succ, List.getElem?_cons_zero, List.set_cons_succ, List.set_cons_zero, Value.category, List.map_cons, List.map_nil, List.sum_cons, List.sum_nil, Nat.reduceAdd, Nat.reduceLeDiff, Nat.reduceEqDiff, Nat.zero_le, reduceCtorEq, ↓reduceIte, eq_self, xit, hf6, hf5, hf4, hn6, hn5, hn4, pf1, pf4, pf5, pf6, pn1, pn4, pn5, hc1, w0, w1, w2, w3, w4, w5, w6, w7, w8, w9, b4, b11, b6, b130, b90, bn1, bn2, bn4, bn5, a2, m3, m4, d9, d12, e9, e12, sx, sy, kk, izI, cs, cn2, eW]
    · rw [if_neg cn] at eo
      rw [eo, es] at eW
      rw [es]
      have cn2 : 0 ≤ nI (blw (sY (cel xs N) k) 11) - 3 := Int32.not_lt.mp cn
      simp only [q172_790 (x := nI k), q172_792, q172_793, q172_796, q172_797, q172_800, q172_801, q172_803, q172_805, q172_807, q172_808, q172_811, q172_813, q172_815, q172_817, q172_818, q172_819, q172_821, q172_822, q172_824, q172_826, q172_828, q172_829, q172_832, q172_834, q172_836, q172_838, q172_839, q172_840, q172_842, q172_844, q172_845, q172_848, q172_851, q172_852, q172_855, q172_856, q172_858, q172_860, q172_861, q172_862, q172_864, q172_867, q172_868, q172_871, q172_872, q172_875, q172_876, q172_879, q172_880, q172_883, q172_885, q172_887, q172_889, q172_892, q172_893, q172_894, q172_896, q172_900, q172_901, q172_902, q172_904, q172_907, q172_908, q172_911, q172_912, q172_913, q172_914, q172_915, q172_917, q172_918, q172_919, q172_920, q172_922, q172_923, q172_924, q172_926, q172_929, q172_930, q172_931, q172_932, q172_934, q172_935, q172_936, q172_939, q172_942, q172_943, q172_944, q172_945, q172_947, q172_950, q172_952, q172_955, q172_957, q172_960, q172_961, q172_964, q172_966, q172_967, q172_968, q172_969, q172_971, q172_972, q172_973, q172_975, q172_978, q172_979, q172_980, q172_982, q172_984, q172_985, q172_986, q172_987, q172_988, q172_989, q172_992, q172_993, q172_994, q172_996, q172_998, q172_1000, q172_1001, q172_1002, q172_1005, q172_1006, q172_1009, q172_1010, q172_1011, q172_1013, q172_1015, q172_1016, q172_1017, q172_1018, q172_1021, q172_1022, q172_1025, q172_1026, q172_1027, q172_1029, q172_1031, q172_1032, q172_1033, q172_1034, q172_1037, q172_1038, q172_1041, q172_1042, q172_1044, q172_1045, q172_1048, q172_1050, q172_1052, q172_1053, q172_806 c3, q172_814 c3, q172_827 c4, q172_835 c4, q172_898 bb, i10, eq_self, ft0, ft1, b01_ft, k1r, k1i, xG_some, xH_some, xC_v, xC_n, if_true, if_false, not_true_eq_false, not_false_eq_true, ix_st, ix_st2, List.getElem?_cons_succ, List.getElem?_cons_zero, List.set_cons_succ, List.set_cons_zero, Value.category, List.map_cons, List.map_nil, List.sum_cons, List.sum_nil, Nat.reduceAdd, Nat.reduceLeDiff, Nat.reduceEqDiff, Nat.zero_le, reduceCtorEq, ↓reduceIte, eq_self, xit, hf6, hf5, hf4, hn6, hn5, hn4, pf1, pf4, pf5, pf6, pn1, pn4, pn5, hc1, w0, w1, w2, w3, w4, w5, w6, w7, w8, w9, b4, b11, b6, b130, b90, bn1, bn2, bn4, bn5, a2, m3, m4, d9, d12, e9, e12, sx, sy, kk, izI, cs, cn2, eW]
  · have hsc : sc6 (cel xs N) k = false := decide_eq_false cs
    have es := es false hsc
    have eo := eo false hsc
    rw [if_neg (by decide)] at es
    rw [if_neg (show ¬ false = true by decide)] at eo
    rw [hsc, b01_f] at eW
    rw [hsc, b01_f]
    by_cases cn : nI (blw (sY (cel xs N) k) 11) - 3 < 0
    · rw [if_pos cn] at eo
      rw [eo, es] at eW
      rw [es]
      have cn2 : ¬ 0 ≤ nI (blw (sY (cel xs N) k) 11) - 3 := Int32.not_le.mpr cn
      simp only [q172_790 (x := nI k), q172_792, q172_793, q172_796, q172_797, q172_800, q172_801, q172_803, q172_805, q172_807, q172_808, q172_811, q172_813, q172_815, q172_817, q172_818, q172_819, q172_821, q172_822, q172_824, q172_826, q172_828, q172_829, q172_832, q172_834, q172_836, q172_838, q172_839, q172_840, q172_842, q172_844, q172_845, q172_848, q172_851, q172_852, q172_855, q172_856, q172_858, q172_860, q172_861, q172_862, q172_864, q172_867, q172_868, q172_871, q172_872, q172_875, q172_876, q172_879, q172_880, q172_883, q172_885, q172_887, q172_889, q172_892, q172_893, q172_894, q172_896, q172_900, q172_901, q172_902, q172_904, q172_907, q172_908, q172_911, q172_912, q172_913, q172_914, q172_915, q172_917, q172_918, q172_919, q172_920, q172_922, q172_923, q172_924, q172_926, q172_929, q172_930, q172_931, q172_932, q172_934, q172_935, q172_936, q172_939, q172_942, q172_943, q172_944, q172_945, q172_947, q172_950, q172_952, q172_955, q172_957, q172_960, q172_961, q172_964, q172_966, q172_967, q172_968, q172_969, q172_971, q172_972, q172_973, q172_975, q172_978, q172_979, q172_980, q172_982, q172_984, q172_985, q172_986, q172_987, q172_988, q172_989, q172_992, q172_993, q172_994, q172_996, q172_998, q172_1000, q172_1001, q172_1002, q172_1005, q172_1006, q172_1009, q172_1010, q172_1011, q172_1013, q172_1015, q172_1016, q172_1017, q172_1018, q172_1021, q172_1022, q172_1025, q172_1026, q172_1027, q172_1029, q172_1031, q172_1032, q172_1033, q172_1034, q172_1037, q172_1038, q172_1041, q172_1042, q172_1044, q172_1045, q172_1048, q172_1050, q172_1052, q172_1053, q172_806 c3, q172_814 c3, q172_827 c4, q172_835 c4, q172_898 bb, i10, eq_self, ft0, ft1, b01_ft, k1r, k1i, xG_some, xH_some, xC_v, xC_n, if_true, if_false, not_true_eq_false, not_false_eq_true, ix_st, ix_st2, List.getElem?_cons_succ, List.getElem?_cons_zero, List.set_cons_succ, List.set_cons_zero, Value.category, List.map_cons, List.map_nil, List.sum_cons, List.sum_nil, Nat.reduceAdd, Nat.reduceLeDiff, Nat.reduceEqDiff, Nat.zero_le, reduceCtorEq, ↓reduceIte, eq_self, xit, hf6, hf5, hf4, hn6, hn5, hn4, pf1, pf4, pf5, pf6, pn1, pn4, pn5, hc1, w0, w1, w2, w3, w4, w5, w6, w7, w8, w9, b4, b11, b6, b130, b90, bn1, bn2, bn4, bn5, a2, m3, m4, d9, d12, e9, e12, sx, sy, kk, izI, cs, cn2, eW]
    · rw [if_neg cn] at eo
      rw [eo, es] at eW
      rw [es]
      have cn2 : 0 ≤ nI (blw (sY (cel xs N) k) 11) - 3 := Int32.not_lt.mp cn
      simp only [q172_790 (x := nI k), q172_792, q172_793, q172_796, q172_797, q172_800, q172_801, q172_803, q172_805, q172_807, q172_808, q172_811, q172_813, q172_815, q172_817, q172_818, q172_819, q172_821, q172_822, q172_824, q172_826, q172_828, q172_829, q172_832, q172_834, q172_836, q172_838, q172_839, q172_840, q172_842, q172_844, q172_845, q172_848, q172_851, q172_852, q172_855, q172_856, q172_858, q172_860, q172_861, q172_862, q172_864, q172_867, q172_868, q172_871, q172_872, q172_875, q172_876, q172_879, q172_880, q172_883, q172_885, q172_887, q172_889, q172_892, q172_893, q172_894, q172_896, q172_900, q172_901, q172_902, q172_904, q172_907, q172_908, q172_911, q172_912, q172_913, q172_914, q172_915, q172_917, q172_918, q172_919, q172_920, q172_922, q172_923, q172_924, q172_926, q172_929, q172_930, q172_931, q172_932, q172_934, q172_935, q172_936, q172_939, q172_942, q172_943, q172_944, q172_945, q172_947, q172_950, q172_952, q172_955, q172_957, q172_960, q172_961, q172_964, q172_966, q172_967, q172_968, q172_969, q172_971, q172_972, q172_973, q172_975, q172_978, q172_979, q172_980, q172_982, q172_984, q172_985, q172_986, q172_987, q172_988, q172_989, q172_992, q172_993, q172_994, q172_996, q172_998, q172_1000, q172_1001, q172_1002, q172_1005, q172_1006, q172_1009, q172_1010, q172_1011, q172_1013, q172_1015, q172_1016, q172_1017, q172_1018, q172_1021, q172_1022, q172_1025, q172_1026, q172_1027, q172_1029, q172_1031, q172_1032, q172_1033, q172_1034, q172_1037, q172_1038, q172_1041, q172_1042, q172_1044, q172_1045, q172_1048, q172_1050, q172_1052, q172_1053, q172_806 c3, q172_814 c3, q172_827 c4, q172_835 c4, q172_898 bb, i10, eq_self, ft0, ft1, b01_ft, k1r, k1i, xG_some, xH_some, xC_v, xC_n, if_true, if_false, not_true_eq_false, not_false_eq_true, ix_st, ix_st2, List.getElem?_cons_succ, List.getElem?_cons_zero, List.set_cons_succ, List.set_cons_zero, Value.category, List.map_cons, List.map_nil, List.sum_cons, List.sum_nil, Nat.reduceAdd, Nat.reduceLeDiff, Nat.reduceEqDiff, Nat.zero_le, reduceCtorEq, ↓reduceIte, eq_self, xit, hf6, hf5, hf4, hn6, hn5, hn4, pf1, pf4, pf5, pf6, pn1, pn4, pn5, hc1, w0, w1, w2, w3, w4, w5, w6, w7, w8, w9, b4, b11, b6, b130, b90, bn1, bn2, bn4, bn5, a2, m3, m4, d9, d12, e9, e12, sx, sy, kk, izI, cs, cn2, eW]
end ST7
