/-! THE START: the list, a bay (written by gen99992.py). -/
theorem lK2 : (sK 2).length = 0 := by decide +kernel
theorem lK3 : (sK 3).length = 4 := by decide +kernel
theorem lK4 : (sK 4).length = 1 := by decide +kernel
theorem lK5 : (sK 5).length = 2 := by decide +kernel
theorem lK6 : (sK 6).length = 9 := by decide +kernel
theorem lK7 : (sK 7).length = 2 := by decide +kernel
theorem lK8 : (sK 8).length = 3 := by decide +kernel
theorem lK9 : (sK 9).length = 11 := by decide +kernel
theorem lK10 : (sK 10).length = 7 := by decide +kernel
theorem lK11 : (sK 11).length = 18 := by decide +kernel
theorem lK12 : (sK 12).length = 3 := by decide +kernel
theorem lK13 : (sK 13).length = 11 := by decide +kernel
theorem lK14 : (sK 14).length = 2 := by decide +kernel
theorem lK15 : (sK 15).length = 12 := by decide +kernel
theorem lK16 : (sK 16).length = 16 := by decide +kernel
theorem lK17 : (sK 17).length = 11 := by decide +kernel
theorem lK18 : (sK 18).length = 3 := by decide +kernel
theorem lK19 : (sK 19).length = 13 := by decide +kernel
theorem lK20 : (sK 20).length = 10 := by decide +kernel
theorem lK21 : (sK 21).length = 1 := by decide +kernel
theorem lK22 : (sK 22).length = 13 := by decide +kernel
theorem lK23 : (sK 23).length = 28 := by decide +kernel
theorem lK24 : (sK 24).length = 12 := by decide +kernel
theorem lK25 : (sK 25).length = 6 := by decide +kernel
theorem lK26 : (sK 26).length = 10 := by decide +kernel
theorem lK27 : (sK 27).length = 6 := by decide +kernel
theorem lK28 : (sK 28).length = 5 := by decide +kernel
theorem lK29 : (sK 29).length = 5 := by decide +kernel
theorem lK30 : (sK 30).length = 7 := by decide +kernel
theorem lK31 : (sK 31).length = 7 := by decide +kernel
theorem lK32 : (sK 32).length = 1 := by decide +kernel
theorem lK33 : (sK 33).length = 9 := by decide +kernel
theorem lK34 : (sK 34).length = 4 := by decide +kernel
theorem lK35 : (sK 35).length = 6 := by decide +kernel
theorem lK36 : (sK 36).length = 7 := by decide +kernel
theorem lK37 : (sK 37).length = 7 := by decide +kernel
theorem lK38 : (sK 38).length = 3 := by decide +kernel
theorem lK39 : (sK 39).length = 8 := by decide +kernel
theorem lK40 : (sK 40).length = 7 := by decide +kernel
theorem lK41 : (sK 41).length = 6 := by decide +kernel
theorem lK42 : (sK 42).length = 7 := by decide +kernel
theorem lK43 : (sK 43).length = 7 := by decide +kernel
theorem lK44 : (sK 44).length = 7 := by decide +kernel
theorem lK45 : (sK 45).length = 4 := by decide +kernel
theorem lK46 : (sK 46).length = 4 := by decide +kernel
section ST3
variable {fv : Value} {d : Nat} {h h' : ix_H} {o v v' s q w k m t r N : Nat} {xs : Nat → Int32} {l l' : List Int32} {X X' : Nat → Nat} {D D' : Nat → Nat → Nat} {n c : Nat → Nat} {M : Mm} {l5 l6 l7 l8 l9 l10 : Option Value}
theorem LB_is (g : LB N xs h o v l s X D n c (WM (cel xs N))) : ix_is (ixP fv) h o "java/lang/StringBuilder" = true := by
  obtain ⟨cap, a, mb, e1, -⟩ := g.1
  exact isSb e1
theorem LB_row2 (g : LB N xs h o v l s X D n c (WM (cel xs N))) (h1 : 1 ≤ t) (h6 : t ≤ 6) {x : ix_C} {E : Nat → Nat} : ((h ++ [x]).set (X t) (OA (n t) r E)).length = h.length + 1 ∧ ix_sz ((h ++ [x]).set (X t) (OA (n t) r E)) = ix_sz h + ix_cs x := by
  refine ⟨?_, ?_⟩
  · rw [List.length_set, List.length_append]
    rfl
  · rw [ix_sz_set _ (X t) _ (OA (n t) r E) ((LB_push g).2.2.2.2.1 t h1 h6).2.2.2 rfl, ix_sz_push]
/-- a bay's line -/
def tx1 (ce : Nat → Int32) (l : List Int32) (k : Nat) : List Int32 := l ++ sK 29 ++ dgt k ++ sK 30 ++ dgt (pB ce k) ++ sK 31 ++ dgt (tB ce k) ++ sK 32
theorem t1_step (g : LB N xs h o v l s X D n c (WM (cel xs N))) (hc : c 1 = k) (hk : k < n 1) (hn : n 1 ≤ 4) (hN : N ≤ 300) (hl : l.length ≤ 1500) : ∃ h' v' D', LB N xs h' o v' (tx1 (cel xs N) l k) s X D' n (upT c 1 (k + 1)) (WM (cel xs N)) ∧ h'.length ≤ h.length + 20 ∧ ix_sz h' ≤ ix_sz h + 60000 ∧ xe (ixP fv) (d + 9) 172 31 [some (.ref 0), some (.ref (o)), some (.ref (s)), some (.int (nI (fS (cel xs N) k))), some (.int (nI k)), l5, l6, l7, l8, l9, l10] [] h = xe (ixP fv) (d + 9) 172 31 [some (.ref 0), some (.ref (o)), some (.ref (s)), some (.int (nI (fS (cel xs N) (k + 1)))), some (.int (nI (k + 1))), some (.int (sB (cel xs N) k)), l6, l7, l8, l9, l10] [] h' := by
  have pb := pB_b (ce := (cel xs N)) (b := k)
  have tb := tB_b (ce := (cel xs N)) (b := k)
  obtain ⟨h2, eW, g2, z2, y2⟩ : ∃ h2, wQ (ixP fv) (h ++ [.inl (0, 2, .inl (upd (upd (fun _ => 0) 0 (nI (pB (cel xs N) k))) 1 (nI (tB (cel xs N) k))))]) (X 1) (nI k) h.length = some h2 ∧ LB N xs h2 o v l s X (upR D 1 k h.length) n (upT c 1 (k + 1)) (WM (cel xs N)) ∧ h2.length = h.length + 1 ∧ ix_sz h2 = ix_sz h + 2 := by
    have hx := LB_row (fv := fv) g (t := 1) (r := k) (by decide) (by decide) hc hk
    exact ⟨_, hx.1, hx.2, LB_row2 g (by decide) (by decide)⟩
  obtain ⟨h3, v3, e3, g3, z3, y3⟩ := LB_app (fv := fv) (d := d + 4) (k := 29) g2 (by decide) (by simp only [List.length_append, lK29, lK29, lK30, lK31, lK32]; have := dgt_len (n := k); have := dgt_len (n := pB (cel xs N) k); have := dgt_len (n := tB (cel xs N) k); omega)
  have e3 : xe (ixP fv) (d + 4 + 4) 157 0 [some (.ref o), some (.ref 59)] [] h2 = some (.inl (some (.ref o)), h3) := e3
  obtain ⟨h4, v4, e4, g4, z4, y4⟩ := LB_int (fv := fv) (d := d + 4) (m := k) g3 (by omega) (by simp only [List.length_append, lK29, lK30, lK31, lK32]; have := dgt_len (n := k); have := dgt_len (n := pB (cel xs N) k); have := dgt_len (n := tB (cel xs N) k); omega)
  obtain ⟨h5, v5, e5, g5, z5, y5⟩ := LB_app (fv := fv) (d := d + 4) (k := 30) g4 (by decide) (by simp only [List.length_append, lK30, lK29, lK30, lK31, lK32]; have := dgt_len (n := k); have := dgt_len (n := pB (cel xs N) k); have := dgt_len (n := tB (cel xs N) k); omega)
  have e5 : xe (ixP fv) (d + 4 + 4) 157 0 [some (.ref o), some (.ref 61)] [] h4 = some (.inl (some (.ref o)), h5) := e5
  obtain ⟨h6, v6, e6, g6, z6, y6⟩ := LB_int (fv := fv) (d := d + 4) (m := pB (cel xs N) k) g5 (by omega) (by simp only [List.length_append, lK29, lK30, lK31, lK32]; have := dgt_len (n := k); have := dgt_len (n := pB (cel xs N) k); have := dgt_len (n := tB (cel xs N) k); omega)
  obtain ⟨h7, v7, e7, g7, z7, y7⟩ := LB_app (fv := fv) (d := d + 4) (k := 31) g6 (by decide) (by simp only [List.length_append, lK31, lK29, lK30, lK31, lK32]; have := dgt_len (n := k); have := dgt_len (n := pB (cel xs N) k); have := dgt_len (n := tB (cel xs N) k); omega)
  have e7 : xe (ixP fv) (d + 4 + 4) 157 0 [some (.ref o), some (.ref 63)] [] h6 = some (.inl (some (.ref o)), h7) := e7
  obtain ⟨h8, v8, e8, g8, z8, y8⟩ := LB_int (fv := fv) (d := d + 4) (m := tB (cel xs N) k) g7 (by omega) (by simp only [List.length_append, lK29, lK30, lK31, lK32]; have := dgt_len (n := k); have := dgt_len (n := pB (cel xs N) k); have := dgt_len (n := tB (cel xs N) k); omega)
  obtain ⟨h9, v9, e9, g9, z9, y9⟩ := LB_app (fv := fv) (d := d + 4) (k := 32) g8 (by decide) (by simp only [List.length_append, lK32, lK29, lK30, lK31, lK32]; have := dgt_len (n := k); have := dgt_len (n := pB (cel xs N) k); have := dgt_len (n := tB (cel xs N) k); omega)
  have e9 : xe (ixP fv) (d + 4 + 4) 157 0 [some (.ref o), some (.ref 65)] [] h8 = some (.inl (some (.ref o)), h9) := e9
  have hf := fun ty fin Y => LB_f1 (fv := fv) (ty := ty) (fin := fin) (Y := Y) g
  have hn1 := LB_n (fv := fv) (t := 1) g (by decide) (by decide)
  have hc1 : ¬ nI (n 1) ≤ nI k := nI_ge hk (by omega)
  have up : k < upT c 1 (k + 1) 1 := by rw [upT_e]; exact Nat.lt_succ_self k
  have hf2 := fun ty fin Y => LB_f1 (fv := fv) (ty := ty) (fin := fin) (Y := Y) g2
  have hq2 := LB_q (fv := fv) (t := 1) (r := k) g2 (by decide) (by decide) up
  have ha2 : ∀ j, j < 2 → rA h2 (upR D 1 k h.length 1 k) (nI j) = some (.int (WM (cel xs N) 1 k j)) := fun j hj => LB_a (t := 1) (r := k) (m := j) g2 (by decide) (by decide) up hj
  have hf5 := fun ty fin Y => LB_f1 (fv := fv) (ty := ty) (fin := fin) (Y := Y) g5
  have hq5 := LB_q (fv := fv) (t := 1) (r := k) g5 (by decide) (by decide) up
  have ha5 : ∀ j, j < 2 → rA h5 (upR D 1 k h.length 1 k) (nI j) = some (.int (WM (cel xs N) 1 k j)) := fun j hj => LB_a (t := 1) (r := k) (m := j) g5 (by decide) (by decide) up hj
  have hf7 := fun ty fin Y => LB_f1 (fv := fv) (ty := ty) (fin := fin) (Y := Y) g7
  have hq7 := LB_q (fv := fv) (t := 1) (r := k) g7 (by decide) (by decide) up
  have ha7 : ∀ j, j < 2 → rA h7 (upR D 1 k h.length 1 k) (nI j) = some (.int (WM (cel xs N) 1 k j)) := fun j hj => LB_a (t := 1) (r := k) (m := j) g7 (by decide) (by decide) up hj
  have ha2 : rA h2 (upR D 1 k h.length 1 k) 0 = some (.int (nI (pB (cel xs N) k))) := ha2 0 (by decide)
  have ha5 : rA h5 (upR D 1 k h.length 1 k) 0 = some (.int (nI (pB (cel xs N) k))) := ha5 0 (by decide)
  have ha7 : rA h7 (upR D 1 k h.length 1 k) 1 = some (.int (nI (tB (cel xs N) k))) := ha7 1 (by decide)
  have w0 : ∀ (F : Nat → Int32) (x : Int32), wA (ixP fv) (h ++ [.inl (0, 2, .inl F)]) h.length 0 x = some (h ++ [.inl (0, 2, .inl (upd F 0 x))]) := fun F x => wE (j := 0) g.2.2.1 (by decide) (by decide)
  have w1 : ∀ (F : Nat → Int32) (x : Int32), wA (ixP fv) (h ++ [.inl (0, 2, .inl F)]) h.length 1 x = some (h ++ [.inl (0, 2, .inl (upd F 1 x))]) := fun F x => wE (j := 1) g.2.2.1 (by decide) (by decide)
  have b8 : ∀ (h : ix_H) (d : Nat) (y : Int32), xe (ixP fv) d 167 0 [some (.int y), some (.int 8)] [] h = some (.inl (some (.int (nI (blw y 8)))), h) := e167 (m := 8) (by decide) (by decide)
  have b9 : ∀ (h : ix_H) (d : Nat) (y : Int32), xe (ixP fv) d 167 0 [some (.int y), some (.int 9)] [] h = some (.inl (some (.int (nI (blw y 9)))), h) := e167 (m := 9) (by decide) (by decide)
  have b3 : ∀ (h : ix_H) (d : Nat) (y : Int32), xe (ixP fv) d 167 0 [some (.int y), some (.int 3)] [] h = some (.inl (some (.int (nI (blw y 3)))), h) := e167 (m := 3) (by decide) (by decide)
  have b2 : ∀ (h : ix_H) (d : Nat) (y : Int32), xe (ixP fv) d 167 0 [some (.int y), some (.int 2)] [] h = some (.inl (some (.int (nI (blw y 2)))), h) := e167 (m := 2) (by decide) (by decide)
  have ce1 : ∀ d, xe (ixP fv) d 168 0 [some (.ref 0), some (.int 1)] [] h = some (.inl (some (.int ((cel xs N) 1))), h) := fun d => m168 (fv := fv) (d := d) (k := 1) (OK_0 g.2.1) hN (by decide)
  have kk : (2 : Int32).toNatClampNeg = 2 := nI_clamp (n := 2) (by decide)
  have bb : ix_big 2 = true := bg (m := 2) (by decide)
  have is2 := LB_is (fv := fv) g2
  have is3 := LB_is (fv := fv) g3
  have is4 := LB_is (fv := fv) g4
  have is5 := LB_is (fv := fv) g5
  have is6 := LB_is (fv := fv) g6
  have is7 := LB_is (fv := fv) g7
  have is8 := LB_is (fv := fv) g8
  have is9 := LB_is (fv := fv) g9
  have hone : ∀ z : Nat, 1 + nI z = nI (1 + z) := fun z => nI_add 1 z
  have ek : nI k + 1 = nI (k + 1) := nI_add k 1
  have es : nI (fS (cel xs N) k) + nI (pB (cel xs N) k) = nI (fS (cel xs N) (k + 1)) := nI_add _ _
  have sb : ((cel xs N) 1 >>> (4 * nI k &&& 31)) = sB (cel xs N) k := rfl
  have p1 : 1 + blw (sB (cel xs N) k) 8 = pB (cel xs N) k := rfl
  have t1 : ∀ m, (if nI (blw (sB (cel xs N) k >>> (5 &&& 31)) 2) = 0 then 9 else 3) = m → 1 + blw (sB (cel xs N) k >>> (3 &&& 31)) m = tB (cel xs N) k := fun m e => by unfold tB; rw [e]
  refine ⟨h9, v9, _, g9, by omega, by omega, ?_⟩
  by_cases cs : nI (blw (sB (cel xs N) k >>> (5 &&& 31)) 2) = 0
  · have t1 := t1 9 (if_pos cs)
    simp only [q172_31 (x := nI k), q172_33, q172_34, q172_37, q172_38, q172_41, q172_42, q172_43, q172_46, q172_47, q172_49, q172_50, q172_51, q172_53, q172_54, q172_57, q172_59, q172_62, q172_63, q172_64, q172_65, q172_67, q172_69, q172_72, q172_73, q172_74, q172_75, q172_76, q172_77, q172_79, q172_80, q172_81, q172_83, q172_84, q172_85, q172_86, q172_89, q172_92, q172_94, q172_97, q172_98, q172_101, q172_102, q172_103, q172_104, q172_105, q172_106, q172_109, q172_111, q172_112, q172_113, q172_114, q172_115, q172_116, q172_117, q172_119, q172_122, q172_124, q172_127, q172_129, q172_132, q172_133, q172_136, q172_138, q172_139, q172_140, q172_141, q172_144, q172_146, q172_149, q172_150, q172_153, q172_155, q172_156, q172_157, q172_158, q172_161, q172_163, q172_166, q172_167, q172_170, q172_60 bb, i10, eq_self, ft0, ft1, b01_ft, k1r, k1i, xG_some, xH_some, xC_v, xC_n, if_true, if_false, not_true_eq_false, not_false_eq_true, ix_st, ix_st2, List.getElem?_cons_succ, List.getElem?_cons_zero, List.set_cons_succ, List.set_cons_zero, Value.category, List.map_cons, List.map_nil, List.sum_cons, List.sum_nil, Nat.reduceAdd, Nat.reduceLeDiff, Nat.reduceEqDiff, Nat.zero_le, reduceCtorEq, ↓reduceIte, eq_self, xit, hf, hn1, hc1, ce1, sb, b8, b9, b3, b2, hone, p1, t1, kk, izI, w0, w1, eW, hf2, hq2, ha2, hf5, hq5, ha5, hf7, hq7, ha7, e3, e4, e5, e6, e7, e8, e9, ek, es, cs, is2, is3, is4, is5, is6, is7, is8, is9]
  · have t1 := t1 3 (if_neg cs)
    simp only [q172_31 (x := nI k), q172_33, q172_34, q172_37, q172_38, q172_41, q172_42, q172_43, q172_46, q172_47, q172_49, q172_50, q172_51, q172_53, q172_54, q172_57, q172_59, q172_62, q172_63, q172_64, q172_65, q172_67, q172_69, q172_72, q172_73, q172_74, q172_75, q172_76, q172_77, q172_79, q172_80, q172_81, q172_83, q172_84, q172_85, q172_86, q172_89, q172_92, q172_94, q172_97, q172_98, q172_101, q172_102, q172_103, q172_104, q172_105, q172_106, q172_109, q172_111, q172_112, q172_113, q172_114, q172_115, q172_116, q172_117, q172_119, q172_122, q172_124, q172_127, q172_129, q172_132, q172_133, q172_136, q172_138, q172_139, q172_140, q172_141, q172_144, q172_146, q172_149, q172_150, q172_153, q172_155, q172_156, q172_157, q172_158, q172_161, q172_163, q172_166, q172_167, q172_170, q172_60 bb, i10, eq_self, ft0, ft1, b01_ft, k1r, k1i, xG_some, xH_some, xC_v, xC_n, if_true, if_false, not_true_eq_false, not_false_eq_true, ix_st, ix_st2, List.getElem?_cons_succ, List.getElem?_cons_zero, List.set_cons_succ, List.set_cons_zero, Value.category, List.map_cons, List.map_nil, List.sum_cons, List.sum_nil, Nat.reduceAdd, Nat.reduceLeDiff, Nat.reduceEqDiff, Nat.zero_le, reduceCtorEq, ↓reduceIte, eq_self, xit, hf, hn1, hc1, ce1, sb, b8, b9, b3, b2, hone, p1, t1, kk, izI, w0, w1, eW, hf2, hq2, ha2, hf5, hq5, ha5, hf7, hq7, ha7, e3, e4, e5, e6, e7, e8, e9, ek, es, cs, is2, is3, is4, is5, is6, is7, is8, is9]
end ST3
