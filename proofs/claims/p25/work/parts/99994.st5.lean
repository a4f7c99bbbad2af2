/-! THE START: the list, chimneys, cradles, flocks (written by gen99994.py). -/
section ST5
variable {fv : Value} {d : Nat} {h h' : ix_H} {o v v' s q w k m t r N : Nat} {xs : Nat → Int32} {l l' : List Int32} {X X' : Nat → Nat} {D D' : Nat → Nat → Nat} {n c : Nat → Nat} {M : Mm} {l5 l6 l7 l8 l9 l10 : Option Value}
def tx3 (ce : Nat → Int32) (l : List Int32) (k : Nat) : List Int32 := l ++ sK 33 ++ dgt (k) ++ sK 34 ++ dgt (blw (sC ce k) (n2 ce)) ++ sK 35 ++ dgt (1 + blw (sC ce k >>> (2 &&& 31)) 30) ++ sK 36 ++ dgt (1 + blw (sC ce k >>> (4 &&& 31)) 12) ++ sK 37 ++ dgt (blw (sC ce k >>> (6 &&& 31)) 10) ++ sK 38
theorem t3_step (g : LB N xs h o v l s X D n c (WM (cel xs N))) (hc : c 3 = k) (hk : k < n 3) (hn : n 3 ≤ 4) (hN : N ≤ 300) (hl : l.length ≤ 1500) : ∃ h' v' D', LB N xs h' o v' (tx3 (cel xs N) l k) s X D' n (upT c 3 (k + 1)) (WM (cel xs N)) ∧ h'.length ≤ h.length + 20 ∧ ix_sz h' ≤ ix_sz h + 60000 ∧ xe (ixP fv) (d + 9) 172 277 [some (.ref 0), some (.ref (o)), some (.ref (s)), some (.int (nI (n2 (cel xs N)))), some (.int (nI k)), l5, l6, l7, l8, l9, l10] [] h = xe (ixP fv) (d + 9) 172 277 [some (.ref 0), some (.ref (o)), some (.ref (s)), some (.int (nI (n2 (cel xs N)))), some (.int (nI (k + 1))), some (.int (sC (cel xs N) k)), l6, l7, l8, l9, l10] [] h' := by
  have nb2 := n2_b (ce := (cel xs N))
  have q0 := blw_lt (x := sC (cel xs N) k) (m := n2 (cel xs N)) (by omega)
  have q1 := blw_lt (x := sC (cel xs N) k >>> (2 &&& 31)) (m := 30) (by decide)
  have q2 := blw_lt (x := sC (cel xs N) k >>> (4 &&& 31)) (m := 12) (by decide)
  have q3 := blw_lt (x := sC (cel xs N) k >>> (6 &&& 31)) (m := 10) (by decide)
  obtain ⟨h2, eW, g2, z2, y2⟩ : ∃ h2, wQ (ixP fv) (h ++ [.inl (0, 4, .inl (upd (upd (upd (upd (fun _ => 0) 0 (nI (blw (sC (cel xs N) k) (n2 (cel xs N))))) 1 (nI (1 + blw (sC (cel xs N) k >>> (2 &&& 31)) 30))) 2 (nI (1 + blw (sC (cel xs N) k >>> (4 &&& 31)) 12))) 3 (nI (blw (sC (cel xs N) k >>> (6 &&& 31)) 10))))]) (X 3) (nI k) h.length = some h2 ∧ LB N xs h2 o v l s X (upR D 3 k h.length) n (upT c 3 (k + 1)) (WM (cel xs N)) ∧ h2.length = h.length + 1 ∧ ix_sz h2 = ix_sz h + 4 := by
    have hx := LB_row (fv := fv) g (t := 3) (r := k) (by decide) (by decide) hc hk
    exact ⟨_, hx.1, hx.2, LB_row2 g (by decide) (by decide)⟩
  obtain ⟨h3, v3, e3, g3, z3, y3⟩ := LB_app (fv := fv) (d := d + 4) (k := 33) g2 (by decide) (by simp only [List.length_append, lK33, lK33, lK34, lK35, lK36, lK37, lK38]; have := dgt_len (n := k); have := dgt_len (n := blw (sC (cel xs N) k) (n2 (cel xs N))); have := dgt_len (n := 1 + blw (sC (cel xs N) k >>> (2 &&& 31)) 30); have := dgt_len (n := 1 + blw (sC (cel xs N) k >>> (4 &&& 31)) 12); have := dgt_len (n := blw (sC (cel xs N) k >>> (6 &&& 31)) 10); omega)
  have e3 : xe (ixP fv) (d + 4 + 4) 157 0 [some (.ref o), some (.ref 67)] [] h2 = some (.inl (some (.ref o)), h3) := e3
  obtain ⟨h4, v4, e4, g4, z4, y4⟩ := LB_int (fv := fv) (d := d + 4) (m := k) g3 (by omega) (by simp only [List.length_append, lK33, lK34, lK35, lK36, lK37, lK38]; have := dgt_len (n := k); have := dgt_len (n := blw (sC (cel xs N) k) (n2 (cel xs N))); have := dgt_len (n := 1 + blw (sC (cel xs N) k >>> (2 &&& 31)) 30); have := dgt_len (n := 1 + blw (sC (cel xs N) k >>> (4 &&& 31)) 12); have := dgt_len (n := blw (sC (cel xs N) k >>> (6 &&& 31)) 10); omega)
  obtain ⟨h5, v5, e5, g5, z5, y5⟩ := LB_app (fv := fv) (d := d + 4) (k := 34) g4 (by decide) (by simp only [List.length_append, lK34, lK33, lK34, lK35, lK36, lK37, lK38]; have := dgt_len (n := k); have := dgt_len (n := blw (sC (cel xs N) k) (n2 (cel xs N))); have := dgt_len (n := 1 + blw (sC (cel xs N) k >>> (2 &&& 31)) 30); have := dgt_len (n := 1 + blw (sC (cel xs N) k >>> (4 &&& 31)) 12); have := dgt_len (n := blw (sC (cel xs N) k >>> (6 &&& 31)) 10); omega)
  have e5 : xe (ixP fv) (d + 4 + 4) 157 0 [some (.ref o), some (.ref 69)] [] h4 = some (.inl (some (.ref o)), h5) := e5
  obtain ⟨h6, v6, e6, g6, z6, y6⟩ := LB_int (fv := fv) (d := d + 4) (m := blw (sC (cel xs N) k) (n2 (cel xs N))) g5 (by omega) (by simp only [List.length_append, lK33, lK34, lK35, lK36, lK37, lK38]; have := dgt_len (n := k); have := dgt_len (n := blw (sC (cel xs N) k) (n2 (cel xs N))); have := dgt_len (n := 1 + blw (sC (cel xs N) k >>> (2 &&& 31)) 30); have := dgt_len (n := 1 + blw (sC (cel xs N) k >>> (4 &&& 31)) 12); have := dgt_len (n := blw (sC (cel xs N) k >>> (6 &&& 31)) 10); omega)
  obtain ⟨h7, v7, e7, g7, z7, y7⟩ := LB_app (fv := fv) (d := d + 4) (k := 35) g6 (by decide) (by simp only [List.length_append, lK35, lK33, lK34, lK35, lK36, lK37, lK38]; have := dgt_len (n := k); have := dgt_len (n := blw (sC (cel xs N) k) (n2 (cel xs N))); have := dgt_len (n := 1 + blw (sC (cel xs N) k >>> (2 &&& 31)) 30); have := dgt_len (n := 1 + blw (sC (cel xs N) k >>> (4 &&& 31)) 12); have := dgt_len (n := blw (sC (cel xs N) k >>> (6 &&& 31)) 10); omega)
  have e7 : xe (ixP fv) (d + 4 + 4) 157 0 [some (.ref o), some (.ref 71)] [] h6 = some (.inl (some (.ref o)), h7) := e7
  obtain ⟨h8, v8, e8, g8, z8, y8⟩ := LB_int (fv := fv) (d := d + 4) (m := 1 + blw (sC (cel xs N) k >>> (2 &&& 31)) 30) g7 (by omega) (by simp only [List.length_append, lK33, lK34, lK35, lK36, lK37, lK38]; have := dgt_len (n := k); have := dgt_len (n := blw (sC (cel xs N) k) (n2 (cel xs N))); have := dgt_len (n := 1 + blw (sC (cel xs N) k >>> (2 &&& 31)) 30); have := dgt_len (n := 1 + blw (sC (cel xs N) k >>> (4 &&& 31)) 12); have := dgt_len (n := blw (sC (cel xs N) k >>> (6 &&& 31)) 10); omega)
  obtain ⟨h9, v9, e9, g9, z9, y9⟩ := LB_app (fv := fv) (d := d + 4) (k := 36) g8 (by decide) (by simp only [List.length_append, lK36, lK33, lK34, lK35, lK36, lK37, lK38]; have := dgt_len (n := k); have := dgt_len (n := blw (sC (cel xs N) k) (n2 (cel xs N))); have := dgt_len (n := 1 + blw (sC (cel xs N) k >>> (2 &&& 31)) 30); have := dgt_len (n := 1 + blw (sC (cel xs N) k >>> (4 &&& 31)) 12); have := dgt_len (n := blw (sC (cel xs N) k >>> (6 &&& 31)) 10); omega)
  have e9 : xe (ixP fv) (d + 4 + 4) 157 0 [some (.ref o), some (.ref 73)] [] h8 = some (.inl (some (.ref o)), h9) := e9
  obtain ⟨h10, v10, e10, g10, z10, y10⟩ := LB_int (fv := fv) (d := d + 4) (m := 1 + blw (sC (cel xs N) k >>> (4 &&& 31)) 12) g9 (by omega) (by simp only [List.length_append, lK33, lK34, lK35, lK36, lK37, lK38]; have := dgt_len (n := k); have := dgt_len (n := blw (sC (cel xs N) k) (n2 (cel xs N))); have := dgt_len (n := 1 + blw (sC (cel xs N) k >>> (2 &&& 31)) 30); have := dgt_len (n := 1 + blw (sC (cel xs N) k >>> (4 &&& 31)) 12); have := dgt_len (n := blw (sC (cel xs N) k >>> (6 &&& 31)) 10); omega)
  obtain ⟨h11, v11, e11, g11, z11, y11⟩ := LB_app (fv := fv) (d := d + 4) (k := 37) g10 (by decide) (by simp only [List.length_append, lK37, lK33, lK34, lK35, lK36, lK37, lK38]; have := dgt_len (n := k); have := dgt_len (n := blw (sC (cel xs N) k) (n2 (cel xs N))); have := dgt_len (n := 1 + blw (sC (cel xs N) k >>> (2 &&& 31)) 30); have := dgt_len (n := 1 + blw (sC (cel xs N) k >>> (4 &&& 31)) 12); have := dgt_len (n := blw (sC (cel xs N) k >>> (6 &&& 31)) 10); omega)
  have e11 : xe (ixP fv) (d + 4 + 4) 157 0 [some (.ref o), some (.ref 75)] [] h10 = some (.inl (some (.ref o)), h11) := e11
  obtain ⟨h12, v12, e12, g12, z12, y12⟩ := LB_int (fv := fv) (d := d + 4) (m := blw (sC (cel xs N) k >>> (6 &&& 31)) 10) g11 (by omega) (by simp only [List.length_append, lK33, lK34, lK35, lK36, lK37, lK38]; have := dgt_len (n := k); have := dgt_len (n := blw (sC (cel xs N) k) (n2 (cel xs N))); have := dgt_len (n := 1 + blw (sC (cel xs N) k >>> (2 &&& 31)) 30); have := dgt_len (n := 1 + blw (sC (cel xs N) k >>> (4 &&& 31)) 12); have := dgt_len (n := blw (sC (cel xs N) k >>> (6 &&& 31)) 10); omega)
  obtain ⟨h13, v13, e13, g13, z13, y13⟩ := LB_app (fv := fv) (d := d + 4) (k := 38) g12 (by decide) (by simp only [List.length_append, lK38, lK33, lK34, lK35, lK36, lK37, lK38]; have := dgt_len (n := k); have := dgt_len (n := blw (sC (cel xs N) k) (n2 (cel xs N))); have := dgt_len (n := 1 + blw (sC (cel xs N) k >>> (2 &&& 31)) 30); have := dgt_len (n := 1 + blw (sC (cel xs N) k >>> (4 &&& 31)) 12); have := dgt_len (n := blw (sC (cel xs N) k >>> (6 &&& 31)) 10); omega)
  have e13 : xe (ixP fv) (d + 4 + 4) 157 0 [some (.ref o), some (.ref 77)] [] h12 = some (.inl (some (.ref o)), h13) := e13
  have hf := fun ty fin Y => LB_f3 (fv := fv) (ty := ty) (fin := fin) (Y := Y) g
  have hn1 := LB_n (fv := fv) (t := 3) g (by decide) (by decide)
  have hc1 : ¬ nI (n 3) ≤ nI k := nI_ge hk (by omega)
  have up : k < upT c 3 (k + 1) 3 := by rw [upT_e]; exact Nat.lt_succ_self k
  have hf5 := fun ty fin Y => LB_f3 (fv := fv) (ty := ty) (fin := fin) (Y := Y) g5
  have hq5 := LB_q (fv := fv) (t := 3) (r := k) g5 (by decide) (by decide) up
  have ha5 : rA h5 (upR D 3 k h.length 3 k) 0 = some (.int (nI (blw (sC (cel xs N) k) (n2 (cel xs N))))) := LB_a (t := 3) (r := k) (m := 0) g5 (by decide) (by decide) up (by decide)
  have hf7 := fun ty fin Y => LB_f3 (fv := fv) (ty := ty) (fin := fin) (Y := Y) g7
  have hq7 := LB_q (fv := fv) (t := 3) (r := k) g7 (by decide) (by decide) up
  have ha7 : rA h7 (upR D 3 k h.length 3 k) 1 = some (.int (nI (1 + blw (sC (cel xs N) k >>> (2 &&& 31)) 30))) := LB_a (t := 3) (r := k) (m := 1) g7 (by decide) (by decide) up (by decide)
  have hf9 := fun ty fin Y => LB_f3 (fv := fv) (ty := ty) (fin := fin) (Y := Y) g9
  have hq9 := LB_q (fv := fv) (t := 3) (r := k) g9 (by decide) (by decide) up
  have ha9 : rA h9 (upR D 3 k h.length 3 k) 2 = some (.int (nI (1 + blw (sC (cel xs N) k >>> (4 &&& 31)) 12))) := LB_a (t := 3) (r := k) (m := 2) g9 (by decide) (by decide) up (by decide)
  have hf11 := fun ty fin Y => LB_f3 (fv := fv) (ty := ty) (fin := fin) (Y := Y) g11
  have hq11 := LB_q (fv := fv) (t := 3) (r := k) g11 (by decide) (by decide) up
  have ha11 : rA h11 (upR D 3 k h.length 3 k) 3 = some (.int (nI (blw (sC (cel xs N) k >>> (6 &&& 31)) 10))) := LB_a (t := 3) (r := k) (m := 3) g11 (by decide) (by decide) up (by decide)
  have w0 : ∀ (F : Nat → Int32) (x : Int32), wA (ixP fv) (h ++ [.inl (0, 4, .inl F)]) h.length 0 x = some (h ++ [.inl (0, 4, .inl (upd F 0 x))]) := fun F x => wE (j := 0) g.2.2.1 (by decide) (by decide)
  have w1 : ∀ (F : Nat → Int32) (x : Int32), wA (ixP fv) (h ++ [.inl (0, 4, .inl F)]) h.length 1 x = some (h ++ [.inl (0, 4, .inl (upd F 1 x))]) := fun F x => wE (j := 1) g.2.2.1 (by decide) (by decide)
  have w2 : ∀ (F : Nat → Int32) (x : Int32), wA (ixP fv) (h ++ [.inl (0, 4, .inl F)]) h.length 2 x = some (h ++ [.inl (0, 4, .inl (upd F 2 x))]) := fun F x => wE (j := 2) g.2.2.1 (by decide) (by decide)
  have w3 : ∀ (F : Nat → Int32) (x : Int32), wA (ixP fv) (h ++ [.inl (0, 4, .inl F)]) h.length 3 x = some (h ++ [.inl (0, 4, .inl (upd F 3 x))]) := fun F x => wE (j := 3) g.2.2.1 (by decide) (by decide)
  have b30 : ∀ (h : ix_H) (d : Nat) (y : Int32), xe (ixP fv) d 167 0 [some (.int y), some (.int 30)] [] h = some (.inl (some (.int (nI (blw y 30)))), h) := e167 (m := 30) (by decide) (by decide)
  have b12 : ∀ (h : ix_H) (d : Nat) (y : Int32), xe (ixP fv) d 167 0 [some (.int y), some (.int 12)] [] h = some (.inl (some (.int (nI (blw y 12)))), h) := e167 (m := 12) (by decide) (by decide)
  have b10 : ∀ (h : ix_H) (d : Nat) (y : Int32), xe (ixP fv) d 167 0 [some (.int y), some (.int 10)] [] h = some (.inl (some (.int (nI (blw y 10)))), h) := e167 (m := 10) (by decide) (by decide)
  have bn := e167 (fv := fv) (m := n2 (cel xs N)) (by omega) (by omega)
  have ce3 : ∀ d, xe (ixP fv) d 168 0 [some (.ref 0), some (.int 3)] [] h = some (.inl (some (.int ((cel xs N) 3))), h) := fun d => m168 (fv := fv) (d := d) (k := 3) (OK_0 g.2.1) hN (by decide)
  have kk : (4 : Int32).toNatClampNeg = 4 := nI_clamp (n := 4) (by decide)
  have bb : ix_big 4 = true := bg (m := 4) (by decide)
  have is2 := LB_is (fv := fv) g2
  have is3 := LB_is (fv := fv) g3
  have is4 := LB_is (fv := fv) g4
  have is5 := LB_is (fv := fv) g5
  have is6 := LB_is (fv := fv) g6
  have is7 := LB_is (fv := fv) g7
  have is8 := LB_is (fv := fv) g8
  have is9 := LB_is (fv := fv) g9
  have is10 := LB_is (fv := fv) g10
  have is11 := LB_is (fv := fv) g11
  have is12 := LB_is (fv := fv) g12
  have is13 := LB_is (fv := fv) g13
  have hone : ∀ z : Nat, 1 + nI z = nI (1 + z) := fun z => nI_add 1 z
  have ek : nI k + 1 = nI (k + 1) := nI_add k 1
  have sx : ((cel xs N) 3 >>> (3 * nI k &&& 31)) = sC (cel xs N) k := rfl
  refine ⟨h13, v13, _, g13, by omega, by omega, ?_⟩
  simp only [q172_277 (x := nI k), q172_279, q172_280, q172_283, q172_284, q172_287, q172_288, q172_289, q172_292, q172_293, q172_295, q172_296, q172_297, q172_299, q172_300, q172_303, q172_305, q172_308, q172_309, q172_310, q172_312, q172_313, q172_316, q172_317, q172_318, q172_319, q172_320, q172_322, q172_323, q172_324, q172_326, q172_329, q172_330, q172_331, q172_332, q172_333, q172_334, q172_336, q172_337, q172_338, q172_340, q172_343, q172_344, q172_345, q172_346, q172_347, q172_349, q172_351, q172_352, q172_354, q172_357, q172_358, q172_359, q172_360, q172_362, q172_365, q172_367, q172_370, q172_372, q172_375, q172_376, q172_379, q172_381, q172_382, q172_383, q172_384, q172_387, q172_389, q172_392, q172_393, q172_396, q172_398, q172_399, q172_400, q172_401, q172_404, q172_406, q172_409, q172_410, q172_413, q172_415, q172_416, q172_417, q172_418, q172_421, q172_423, q172_426, q172_427, q172_430, q172_432, q172_433, q172_434, q172_435, q172_438, q172_440, q172_443, q172_444, q172_447, q172_306 bb, i10, eq_self, ft0, ft1, b01_ft, k1r, k1i, xG_some, xH_some, xC_v, xC_n, if_true, if_false, not_true_eq_false, not_false_eq_true, ix_st, ix_st2, List.getElem?_cons_succ, List.getElem?_cons_zero, List.set_cons_succ, List.set_cons_zero, Value.category, List.map_cons, List.map_nil, List.sum_cons, List.sum_nil, Nat.reduceAdd, Nat.reduceLeDiff, Nat.reduceEqDiff, Nat.zero_le, reduceCtorEq, ↓reduceIte, eq_self, xit, hf, hn1, hc1, ce3, sx, b30, b12, b10, bn, hone, kk, izI, w0, w1, w2, w3, eW, hf5, hq5, ha5, hf7, hq7, ha7, hf9, hq9, ha9, hf11, hq11, ha11, e3, e4, e5, e6, e7, e8, e9, e10, e11, e12, e13, ek, is2, is3, is4, is5, is6, is7, is8, is9, is10, is11, is12, is13]
theorem tx3_len : (tx3 (cel xs N) l k).length ≤ l.length + 51 := by
  have := dgt_len (n := k)
  have := dgt_len (n := blw (sC (cel xs N) k) (n2 (cel xs N)))
  have := dgt_len (n := 1 + blw (sC (cel xs N) k >>> (2 &&& 31)) 30)
  have := dgt_len (n := 1 + blw (sC (cel xs N) k >>> (4 &&& 31)) 12)
  have := dgt_len (n := blw (sC (cel xs N) k >>> (6 &&& 31)) 10)
  unfold tx3
  simp only [List.length_append, lK33, lK34, lK35, lK36, lK37, lK38]
  omega
theorem t3_all (hn : n 3 ≤ 4) (hN : N ≤ 300) : ∀ (r k : Nat) (h : ix_H) (v : Nat) (l : List Int32) (D : Nat → Nat → Nat) (c : Nat → Nat) (l5 : Option Value), k + r = n 3 → LB N xs h o v l s X D n c (WM (cel xs N)) → c 3 = k → l.length + 51 * r ≤ 1500 → ∃ h' v' D' c' l5', LB N xs h' o v' (itr (fun k l => tx3 (cel xs N) l k) k r l) s X D' n c' (WM (cel xs N)) ∧ c' 3 = n 3 ∧ (∀ t', t' ≠ 3 → c' t' = c t') ∧ (itr (fun k l => tx3 (cel xs N) l k) k r l).length ≤ l.length + 51 * r ∧ h'.length ≤ h.length + 20 * r ∧ ix_sz h' ≤ ix_sz h + 60000 * r ∧ xe (ixP fv) (d + 9) 172 277 [some (.ref 0), some (.ref (o)), some (.ref (s)), some (.int (nI (n2 (cel xs N)))), some (.int (nI k)), l5, l6, l7, l8, l9, l10] [] h = xe (ixP fv) (d + 9) 172 450 [some (.ref 0), some (.ref (o)), some (.ref (s)), some (.int (nI (n2 (cel xs N)))), some (.int (nI (n 3))), l5', l6, l7, l8, l9, l10] [] h'
  | 0, k, h, v, l, D, c, l5, e, g, hc, hl => by
    have : k = n 3 := by omega
    subst this
    have hf := fun ty fin Y => LB_f3 (fv := fv) (ty := ty) (fin := fin) (Y := Y) g
    have hn1 := LB_n (fv := fv) (t := 3) g (by decide) (by decide)
    have hc1 : nI (n 3) ≤ nI (n 3) := Int32.le_refl _
    refine ⟨h, v, D, c, l5, g, hc, fun _ _ => rfl, Nat.le_refl _, Nat.le_refl _, Nat.le_refl _, ?_⟩
    simp only [q172_277 (x := nI (n 3)), q172_279, q172_280, q172_283, q172_284, i10, eq_self, ft0, ft1, b01_ft, k1r, k1i, xG_some, xH_some, xC_v, xC_n, if_true, if_false, not_true_eq_false, not_false_eq_true, ix_st, ix_st2, List.getElem?_cons_succ, List.getElem?_cons_zero, List.set_cons_succ, List.set_cons_zero, Value.category, List.map_cons, List.map_nil, List.sum_cons, List.sum_nil, Nat.reduceAdd, Nat.reduceLeDiff, Nat.reduceEqDiff, Nat.zero_le, reduceCtorEq, ↓reduceIte, eq_self, xit, hf, hn1, hc1]
  | r + 1, k, h, v, l, D, c, l5, e, g, hc, hl => by
    have tl := tx3_len (k := k) (l := l) (N := N) (xs := xs)
    obtain ⟨h1, v1, D1, g1, z1, y1, e1⟩ := t3_step (fv := fv) (d := d) (l5 := l5) (l6 := l6) (l7 := l7) (l8 := l8) (l9 := l9) (l10 := l10) g hc (by omega) hn hN (by omega)
    obtain ⟨h2, v2, D2, c2, m5, g2, q2, q3, p2, z2, y2, e2⟩ := t3_all hn hN r (k + 1) h1 v1 (tx3 (cel xs N) l k) D1 (upT c 3 (k + 1)) (some (.int (sC (cel xs N) k))) (by omega) g1 upT_e (by omega)
    exact ⟨h2, v2, D2, c2, m5, g2, q2, fun t' ht => (q3 t' ht).trans (if_neg ht), Nat.le_trans p2 (by omega), by omega, by omega, e1.trans e2⟩
def tx4 (ce : Nat → Int32) (l : List Int32) (k : Nat) : List Int32 := l ++ sK 39 ++ dgt (k) ++ sK 34 ++ dgt (blw (sR ce k) (n2 ce)) ++ sK 40 ++ dgt (1 + blw (sR ce k >>> (3 &&& 31)) 9) ++ sK 41 ++ dgt (1 + blw (sR ce k >>> (5 &&& 31)) 60) ++ sK 32
theorem t4_step (g : LB N xs h o v l s X D n c (WM (cel xs N))) (hc : c 4 = k) (hk : k < n 4) (hn : n 4 ≤ 3) (hN : N ≤ 300) (hl : l.length ≤ 1500) : ∃ h' v' D', LB N xs h' o v' (tx4 (cel xs N) l k) s X D' n (upT c 4 (k + 1)) (WM (cel xs N)) ∧ h'.length ≤ h.length + 20 ∧ ix_sz h' ≤ ix_sz h + 60000 ∧ xe (ixP fv) (d + 9) 172 471 [some (.ref 0), some (.ref (o)), some (.ref (s)), some (.int (nI (n2 (cel xs N)))), some (.int (nI k)), l5, l6, l7, l8, l9, l10] [] h = xe (ixP fv) (d + 9) 172 471 [some (.ref 0), some (.ref (o)), some (.ref (s)), some (.int (nI (n2 (cel xs N)))), some (.int (nI (k + 1))), some (.int (sR (cel xs N) k)), l6, l7, l8, l9, l10] [] h' := by
  have nb2 := n2_b (ce := (cel xs N))
  have q0 := blw_lt (x := sR (cel xs N) k) (m := n2 (cel xs N)) (by omega)
  have q1 := blw_lt (x := sR (cel xs N) k >>> (3 &&& 31)) (m := 9) (by decide)
  have q2 := blw_lt (x := sR (cel xs N) k >>> (5 &&& 31)) (m := 60) (by decide)
  obtain ⟨h2, eW, g2, z2, y2⟩ : ∃ h2, wQ (ixP fv) (h ++ [.inl (0, 5, .inl (upd (upd (upd (upd (upd (fun _ => 0) 0 (nI (blw (sR (cel xs N) k) (n2 (cel xs N))))) 1 (nI (1 + blw (sR (cel xs N) k >>> (3 &&& 31)) 9))) 2 (nI (1 + blw (sR (cel xs N) k >>> (5 &&& 31)) 60))) 3 (20)) 4 (0)))]) (X 4) (nI k) h.length = some h2 ∧ LB N xs h2 o v l s X (upR D 4 k h.length) n (upT c 4 (k + 1)) (WM (cel xs N)) ∧ h2.length = h.length + 1 ∧ ix_sz h2 = ix_sz h + 5 := by
    have hx := LB_row (fv := fv) g (t := 4) (r := k) (by decide) (by decide) hc hk
    exact ⟨_, hx.1, hx.2, LB_row2 g (by decide) (by decide)⟩
  obtain ⟨h3, v3, e3, g3, z3, y3⟩ := LB_app (fv := fv) (d := d + 4) (k := 39) g2 (by decide) (by simp only [List.length_append, lK39, lK39, lK34, lK40, lK41, lK32]; have := dgt_len (n := k); have := dgt_len (n := blw (sR (cel xs N) k) (n2 (cel xs N))); have := dgt_len (n := 1 + blw (sR (cel xs N) k >>> (3 &&& 31)) 9); have := dgt_len (n := 1 + blw (sR (cel xs N) k >>> (5 &&& 31)) 60); omega)
  have e3 : xe (ixP fv) (d + 4 + 4) 157 0 [some (.ref o), some (.ref 79)] [] h2 = some (.inl (some (.ref o)), h3) := e3
  obtain ⟨h4, v4, e4, g4, z4, y4⟩ := LB_int (fv := fv) (d := d + 4) (m := k) g3 (by omega) (by simp only [List.length_append, lK39, lK34, lK40, lK41, lK32]; have := dgt_len (n := k); have := dgt_len (n := blw (sR (cel xs N) k) (n2 (cel xs N))); have := dgt_len (n := 1 + blw (sR (cel xs N) k >>> (3 &&& 31)) 9); have := dgt_len (n := 1 + blw (sR (cel xs N) k >>> (5 &&& 31)) 60); omega)
  obtain ⟨h5, v5, e5, g5, z5, y5⟩ := LB_app (fv := fv) (d := d + 4) (k := 34) g4 (by decide) (by simp only [List.length_append, lK34, lK39, lK34, lK40, lK41, lK32]; have := dgt_len (n := k); have := dgt_len (n := blw (sR (cel xs N) k) (n2 (cel xs N))); have := dgt_len (n := 1 + blw (sR (cel xs N) k >>> (3 &&& 31)) 9); have := dgt_len (n := 1 + blw (sR (cel xs N) k >>> (5 &&& 31)) 60); omega)
  have e5 : xe (ixP fv) (d + 4 + 4) 157 0 [some (.ref o), some (.ref 69)] [] h4 = some (.inl (some (.ref o)), h5) := e5
  obtain ⟨h6, v6, e6, g6, z6, y6⟩ := LB_int (fv := fv) (d := d + 4) (m := blw (sR (cel xs N) k) (n2 (cel xs N))) g5 (by omega) (by simp only [List.length_append, lK39, lK34, lK40, lK41, lK32]; have := dgt_len (n := k); have := dgt_len (n := blw (sR (cel xs N) k) (n2 (cel xs N))); have := dgt_len (n := 1 + blw (sR (cel xs N) k >>> (3 &&& 31)) 9); have := dgt_len (n := 1 + blw (sR (cel xs N) k >>> (5 &&& 31)) 60); omega)
  obtain ⟨h7, v7, e7, g7, z7, y7⟩ := LB_app (fv := fv) (d := d + 4) (k := 40) g6 (by decide) (by simp only [List.length_append, lK40, lK39, lK34, lK40, lK41, lK32]; have := dgt_len (n := k); have := dgt_len (n := blw (sR (cel xs N) k) (n2 (cel xs N))); have := dgt_len (n := 1 + blw (sR (cel xs N) k >>> (3 &&& 31)) 9); have := dgt_len (n := 1 + blw (sR (cel xs N) k >>> (5 &&& 31)) 60); omega)
  have e7 : xe (ixP fv) (d + 4 + 4) 157 0 [some (.ref o), some (.ref 81)] [] h6 = some (.inl (some (.ref o)), h7) := e7
  obtain ⟨h8, v8, e8, g8, z8, y8⟩ := LB_int (fv := fv) (d := d + 4) (m := 1 + blw (sR (cel xs N) k >>> (3 &&& 31)) 9) g7 (by omega) (by simp only [List.length_append, lK39, lK34, lK40, lK41, lK32]; have := dgt_len (n := k); have := dgt_len (n := blw (sR (cel xs N) k) (n2 (cel xs N))); have := dgt_len (n := 1 + blw (sR (cel xs N) k >>> (3 &&& 31)) 9); have := dgt_len (n := 1 + blw (sR (cel xs N) k >>> (5 &&& 31)) 60); omega)
  obtain ⟨h9, v9, e9, g9, z9, y9⟩ := LB_app (fv := fv) (d := d + 4) (k := 41) g8 (by decide) (by simp only [List.length_append, lK41, lK39, lK34, lK40, lK41, lK32]; have := dgt_len (n := k); have := dgt_len (n := blw (sR (cel xs N) k) (n2 (cel xs N))); have := dgt_len (n := 1 + blw (sR (cel xs N) k >>> (3 &&& 31)) 9); have := dgt_len (n := 1 + blw (sR (cel xs N) k >>> (5 &&& 31)) 60); omega)
  have e9 : xe (ixP fv) (d + 4 + 4) 157 0 [some (.ref o), some (.ref 83)] [] h8 = some (.inl (some (.ref o)), h9) := e9
  obtain ⟨h10, v10, e10, g10, z10, y10⟩ := LB_int (fv := fv) (d := d + 4) (m := 1 + blw (sR (cel xs N) k >>> (5 &&& 31)) 60) g9 (by omega) (by simp only [List.length_append, lK39, lK34, lK40, lK41, lK32]; have := dgt_len (n := k); have := dgt_len (n := blw (sR (cel xs N) k) (n2 (cel xs N))); have := dgt_len (n := 1 + blw (sR (cel xs N) k >>> (3 &&& 31)) 9); have := dgt_len (n := 1 + blw (sR (cel xs N) k >>> (5 &&& 31)) 60); omega)
  obtain ⟨h11, v11, e11, g11, z11, y11⟩ := LB_app (fv := fv) (d := d + 4) (k := 32) g10 (by decide) (by simp only [List.length_append, lK32, lK39, lK34, lK40, lK41, lK32]; have := dgt_len (n := k); have := dgt_len (n := blw (sR (cel xs N) k) (n2 (cel xs N))); have := dgt_len (n := 1 + blw (sR (cel xs N) k >>> (3 &&& 31)) 9); have := dgt_len (n := 1 + blw (sR (cel xs N) k >>> (5 &&& 31)) 60); omega)
  have e11 : xe (ixP fv) (d + 4 + 4) 157 0 [some (.ref o), some (.ref 65)] [] h10 = some (.inl (some (.ref o)), h11) := e11
  have hf := fun ty fin Y => LB_f4 (fv := fv) (ty := ty) (fin := fin) (Y := Y) g
  have hn1 := LB_n (fv := fv) (t := 4) g (by decide) (by decide)
  have hc1 : ¬ nI (n 4) ≤ nI k := nI_ge hk (by omega)
  have up : k < upT c 4 (k + 1) 4 := by rw [upT_e]; exact Nat.lt_succ_self k
  have hf5 := fun ty fin Y => LB_f4 (fv := fv) (ty := ty) (fin := fin) (Y := Y) g5
  have hq5 := LB_q (fv := fv) (t := 4) (r := k) g5 (by decide) (by decide) up
  have ha5 : rA h5 (upR D 4 k h.length 4 k) 0 = some (.int (nI (blw (sR (cel xs N) k) (n2 (cel xs N))))) := LB_a (t := 4) (r := k) (m := 0) g5 (by decide) (by decide) up (by decide)
  have hf7 := fun ty fin Y => LB_f4 (fv := fv) (ty := ty) (fin := fin) (Y := Y) g7
  have hq7 := LB_q (fv := fv) (t := 4) (r := k) g7 (by decide) (by decide) up
  have ha7 : rA h7 (upR D 4 k h.length 4 k) 1 = some (.int (nI (1 + blw (sR (cel xs N) k >>> (3 &&& 31)) 9))) := LB_a (t := 4) (r := k) (m := 1) g7 (by decide) (by decide) up (by decide)
  have hf9 := fun ty fin Y => LB_f4 (fv := fv) (ty := ty) (fin := fin) (Y := Y) g9
  have hq9 := LB_q (fv := fv) (t := 4) (r := k) g9 (by decide) (by decide) up
  have ha9 : rA h9 (upR D 4 k h.length 4 k) 2 = some (.int (nI (1 + blw (sR (cel xs N) k >>> (5 &&& 31)) 60))) := LB_a (t := 4) (r := k) (m := 2) g9 (by decide) (by decide) up (by decide)
  have w0 : ∀ (F : Nat → Int32) (x : Int32), wA (ixP fv) (h ++ [.inl (0, 5, .inl F)]) h.length 0 x = some (h ++ [.inl (0, 5, .inl (upd F 0 x))]) := fun F x => wE (j := 0) g.2.2.1 (by decide) (by decide)
  have w1 : ∀ (F : Nat → Int32) (x : Int32), wA (ixP fv) (h ++ [.inl (0, 5, .inl F)]) h.length 1 x = some (h ++ [.inl (0, 5, .inl (upd F 1 x))]) := fun F x => wE (j := 1) g.2.2.1 (by decide) (by decide)
  have w2 : ∀ (F : Nat → Int32) (x : Int32), wA (ixP fv) (h ++ [.inl (0, 5, .inl F)]) h.length 2 x = some (h ++ [.inl (0, 5, .inl (upd F 2 x))]) := fun F x => wE (j := 2) g.2.2.1 (by decide) (by decide)
  have w3 : ∀ (F : Nat → Int32) (x : Int32), wA (ixP fv) (h ++ [.inl (0, 5, .inl F)]) h.length 3 x = some (h ++ [.inl (0, 5, .inl (upd F 3 x))]) := fun F x => wE (j := 3) g.2.2.1 (by decide) (by decide)
  have w4 : ∀ (F : Nat → Int32) (x : Int32), wA (ixP fv) (h ++ [.inl (0, 5, .inl F)]) h.length 4 x = some (h ++ [.inl (0, 5, .inl (upd F 4 x))]) := fun F x => wE (j := 4) g.2.2.1 (by decide) (by decide)
  have b9 : ∀ (h : ix_H) (d : Nat) (y : Int32), xe (ixP fv) d 167 0 [some (.int y), some (.int 9)] [] h = some (.inl (some (.int (nI (blw y 9)))), h) := e167 (m := 9) (by decide) (by decide)
  have b60 : ∀ (h : ix_H) (d : Nat) (y : Int32), xe (ixP fv) d 167 0 [some (.int y), some (.int 60)] [] h = some (.inl (some (.int (nI (blw y 60)))), h) := e167 (m := 60) (by decide) (by decide)
  have bn := e167 (fv := fv) (m := n2 (cel xs N)) (by omega) (by omega)
  have ce5 : ∀ d, xe (ixP fv) d 168 0 [some (.ref 0), some (.int 5)] [] h = some (.inl (some (.int ((cel xs N) 5))), h) := fun d => m168 (fv := fv) (d := d) (k := 5) (OK_0 g.2.1) hN (by decide)
  have kk : (5 : Int32).toNatClampNeg = 5 := nI_clamp (n := 5) (by decide)
  have bb : ix_big 5 = true := bg (m := 5) (by decide)
  have is2 := LB_is (fv := fv) g2
  have is3 := LB_is (fv := fv) g3
  have is4 := LB_is (fv := fv) g4
  have is5 := LB_is (fv := fv) g5
  have is6 := LB_is (fv := fv) g6
  have is7 := LB_is (fv := fv) g7
  have is8 := LB_is (fv := fv) g8
  have is9 := LB_is (fv := fv) g9
  have is10 := LB_is (fv := fv) g10
  have is11 := LB_is (fv := fv) g11
  have hone : ∀ z : Nat, 1 + nI z = nI (1 + z) := fun z => nI_add 1 z
  have ek : nI k + 1 = nI (k + 1) := nI_add k 1
  have sx : ((cel xs N) 5 >>> (4 * nI k &&& 31)) = sR (cel xs N) k := rfl
  refine ⟨h11, v11, _, g11, by omega, by omega, ?_⟩
  simp only [q172_471 (x := nI k), q172_473, q172_474, q172_477, q172_478, q172_481, q172_482, q172_483, q172_486, q172_487, q172_489, q172_490, q172_491, q172_493, q172_494, q172_497, q172_499, q172_502, q172_503, q172_504, q172_506, q172_507, q172_510, q172_511, q172_512, q172_513, q172_514, q172_516, q172_517, q172_518, q172_520, q172_523, q172_524, q172_525, q172_526, q172_527, q172_528, q172_530, q172_531, q172_532, q172_534, q172_537, q172_538, q172_539, q172_540, q172_541, q172_543, q172_544, q172_545, q172_546, q172_547, q172_548, q172_549, q172_550, q172_552, q172_555, q172_557, q172_560, q172_562, q172_565, q172_566, q172_569, q172_571, q172_572, q172_573, q172_574, q172_577, q172_579, q172_582, q172_583, q172_586, q172_588, q172_589, q172_590, q172_591, q172_594, q172_596, q172_599, q172_600, q172_603, q172_605, q172_606, q172_607, q172_608, q172_611, q172_613, q172_616, q172_617, q172_620, q172_500 bb, i10, eq_self, ft0, ft1, b01_ft, k1r, k1i, xG_some, xH_some, xC_v, xC_n, if_true, if_false, not_true_eq_false, not_false_eq_true, ix_st, ix_st2, List.getElem?_cons_succ, List.getElem?_cons_zero, List.set_cons_succ, List.set_cons_zero, Value.category, List.map_cons, List.map_nil, List.sum_cons, List.sum_nil, Nat.reduceAdd, Nat.reduceLeDiff, Nat.reduceEqDiff, Nat.zero_le, reduceCtorEq, ↓reduceIte, eq_self, xit, hf, hn1, hc1, ce5, sx, b9, b60, bn, hone, kk, izI, w0, w1, w2, w3, w4, eW, hf5, hq5, ha5, hf7, hq7, ha7, hf9, hq9, ha9, e3, e4, e5, e6, e7, e8, e9, e10, e11, ek, is2, is3, is4, is5, is6, is7, is8, is9, is10, is11]
theorem tx4_len : (tx4 (cel xs N) l k).length ≤ l.length + 39 := by
  have := dgt_len (n := k)
  have := dgt_len (n := blw (sR (cel xs N) k) (n2 (cel xs N)))
  have := dgt_len (n := 1 + blw (sR (cel xs N) k >>> (3 &&& 31)) 9)
  have := dgt_len (n := 1 + blw (sR (cel xs N) k >>> (5 &&& 31)) 60)
  unfold tx4
  simp only [List.length_append, lK39, lK34, lK40, lK41, lK32]
  omega
theorem t4_all (hn : n 4 ≤ 3) (hN : N ≤ 300) : ∀ (r k : Nat) (h : ix_H) (v : Nat) (l : List Int32) (D : Nat → Nat → Nat) (c : Nat → Nat) (l5 : Option Value), k + r = n 4 → LB N xs h o v l s X D n c (WM (cel xs N)) → c 4 = k → l.length + 39 * r ≤ 1500 → ∃ h' v' D' c' l5', LB N xs h' o v' (itr (fun k l => tx4 (cel xs N) l k) k r l) s X D' n c' (WM (cel xs N)) ∧ c' 4 = n 4 ∧ (∀ t', t' ≠ 4 → c' t' = c t') ∧ (itr (fun k l => tx4 (cel xs N) l k) k r l).length ≤ l.length + 39 * r ∧ h'.length ≤ h.length + 20 * r ∧ ix_sz h' ≤ ix_sz h + 60000 * r ∧ xe (ixP fv) (d + 9) 172 471 [some (.ref 0), some (.ref (o)), some (.ref (s)), some (.int (nI (n2 (cel xs N)))), some (.int (nI k)), l5, l6, l7, l8, l9, l10] [] h = xe (ixP fv) (d + 9) 172 623 [some (.ref 0), some (.ref (o)), some (.ref (s)), some (.int (nI (n2 (cel xs N)))), some (.int (nI (n 4))), l5', l6, l7, l8, l9, l10] [] h'
  | 0, k, h, v, l, D, c, l5, e, g, hc, hl => by
    have : k = n 4 := by omega
    subst this
    have hf := fun ty fin Y => LB_f4 (fv := fv) (ty := ty) (fin := fin) (Y := Y) g
    have hn1 := LB_n (fv := fv) (t := 4) g (by decide) (by decide)
    have hc1 : nI (n 4) ≤ nI (n 4) := Int32.le_refl _
    refine ⟨h, v, D, c, l5, g, hc, fun _ _ => rfl, Nat.le_refl _, Nat.le_refl _, Nat.le_refl _, ?_⟩
    simp only [q172_471 (x := nI (n 4)), q172_473, q172_474, q172_477, q172_478, i10, eq_self, ft0, ft1, b01_ft, k1r, k1i, xG_some, xH_some, xC_v, xC_n, if_true, if_false, not_true_eq_false, not_false_eq_true, ix_st, ix_st2, List.getElem?_cons_succ, List.getElem?_cons_zero, List.set_cons_succ, List.set_cons_zero, Value.category, List.map_cons, List.map_nil, List.sum_cons, List.sum_nil, Nat.reduceAdd, Nat.reduceLeDiff, Nat.reduceEqDiff, Nat.zero_le, reduceCtorEq, ↓reduceIte, eq_self, xit, hf, hn1, hc1]
  | r + 1, k, h, v, l, D, c, l5, e, g, hc, hl => by
    have tl := tx4_len (k := k) (l := l) (N := N) (xs := xs)
    obtain ⟨h1, v1, D1, g1, z1, y1, e1⟩ := t4_step (fv := fv) (d := d) (l5 := l5) (l6 := l6) (l7 := l7) (l8 := l8) (l9 := l9) (l10 := l10) g hc (by omega) hn hN (by omega)
    obtain ⟨h2, v2, D2, c2, m5, g2, q2, q3, p2, z2, y2, e2⟩ := t4_all hn hN r (k + 1) h1 v1 (tx4 (cel xs N) l k) D1 (upT c 4 (k + 1)) (some (.int (sR (cel xs N) k))) (by omega) g1 upT_e (by omega)
    exact ⟨h2, v2, D2, c2, m5, g2, q2, fun t' ht => (q3 t' ht).trans (if_neg ht), Nat.le_trans p2 (by omega), by omega, by omega, e1.trans e2⟩
def tx5 (ce : Nat → Int32) (l : List Int32) (k : Nat) : List Int32 := l ++ sK 42 ++ dgt (k) ++ sK 43 ++ dgt (1 + blw (sF ce k) 20) ++ sK 36 ++ dgt (1 + blw (sF ce k >>> (4 &&& 31)) 12) ++ sK 32
theorem t5_step (g : LB N xs h o v l s X D n c (WM (cel xs N))) (hc : c 5 = k) (hk : k < n 5) (hn : n 5 ≤ 3) (hN : N ≤ 300) (hl : l.length ≤ 1500) : ∃ h' v' D', LB N xs h' o v' (tx5 (cel xs N) l k) s X D' n (upT c 5 (k + 1)) (WM (cel xs N)) ∧ h'.length ≤ h.length + 20 ∧ ix_sz h' ≤ ix_sz h + 60000 ∧ xe (ixP fv) (d + 9) 172 645 [some (.ref 0), some (.ref (o)), some (.ref (s)), some (.int (nI (n2 (cel xs N)))), some (.int (nI k)), l5, l6, l7, l8, l9, l10] [] h = xe (ixP fv) (d + 9) 172 645 [some (.ref 0), some (.ref (o)), some (.ref (s)), some (.int (nI (n2 (cel xs N)))), some (.int (nI (k + 1))), some (.int (sF (cel xs N) k)), l6, l7, l8, l9, l10] [] h' := by
  have nb2 := n2_b (ce := (cel xs N))
  have q0 := blw_lt (x := sF (cel xs N) k) (m := 20) (by decide)
  have q1 := blw_lt (x := sF (cel xs N) k >>> (4 &&& 31)) (m := 12) (by decide)
  obtain ⟨h2, eW, g2, z2, y2⟩ : ∃ h2, wQ (ixP fv) (h ++ [.inl (0, 4, .inl (upd (upd (upd (upd (fun _ => 0) 0 (-1)) 1 (nI (1 + blw (sF (cel xs N) k) 20))) 2 (nI (1 + blw (sF (cel xs N) k >>> (4 &&& 31)) 12))) 3 (0)))]) (X 5) (nI k) h.length = some h2 ∧ LB N xs h2 o v l s X (upR D 5 k h.length) n (upT c 5 (k + 1)) (WM (cel xs N)) ∧ h2.length = h.length + 1 ∧ ix_sz h2 = ix_sz h + 4 := by
    have hx := LB_row (fv := fv) g (t := 5) (r := k) (by decide) (by decide) hc hk
    exact ⟨_, hx.1, hx.2, LB_row2 g (by decide) (by decide)⟩
  obtain ⟨h3, v3, e3, g3, z3, y3⟩ := LB_app (fv := fv) (d := d + 4) (k := 42) g2 (by decide) (by simp only [List.length_append, lK42, lK42, lK43, lK36, lK32]; have := dgt_len (n := k); have := dgt_len (n := 1 + blw (sF (cel xs N) k) 20); have := dgt_len (n := 1 + blw (sF (cel xs N) k >>> (4 &&& 31)) 12); omega)
  have e3 : xe (ixP fv) (d + 4 + 4) 157 0 [some (.ref o), some (.ref 85)] [] h2 = some (.inl (some (.ref o)), h3) := e3
  obtain ⟨h4, v4, e4, g4, z4, y4⟩ := LB_int (fv := fv) (d := d + 4) (m := k) g3 (by omega) (by simp only [List.length_append, lK42, lK43, lK36, lK32]; have := dgt_len (n := k); have := dgt_len (n := 1 + blw (sF (cel xs N) k) 20); have := dgt_len (n := 1 + blw (sF (cel xs N) k >>> (4 &&& 31)) 12); omega)
  obtain ⟨h5, v5, e5, g5, z5, y5⟩ := LB_app (fv := fv) (d := d + 4) (k := 43) g4 (by decide) (by simp only [List.length_append, lK43, lK42, lK43, lK36, lK32]; have := dgt_len (n := k); have := dgt_len (n := 1 + blw (sF (cel xs N) k) 20); have := dgt_len (n := 1 + blw (sF (cel xs N) k >>> (4 &&& 31)) 12); omega)
  have e5 : xe (ixP fv) (d + 4 + 4) 157 0 [some (.ref o), some (.ref 87)] [] h4 = some (.inl (some (.ref o)), h5) := e5
  obtain ⟨h6, v6, e6, g6, z6, y6⟩ := LB_int (fv := fv) (d := d + 4) (m := 1 + blw (sF (cel xs N) k) 20) g5 (by omega) (by simp only [List.length_append, lK42, lK43, lK36, lK32]; have := dgt_len (n := k); have := dgt_len (n := 1 + blw (sF (cel xs N) k) 20); have := dgt_len (n := 1 + blw (sF (cel xs N) k >>> (4 &&& 31)) 12); omega)
  obtain ⟨h7, v7, e7, g7, z7, y7⟩ := LB_app (fv := fv) (d := d + 4) (k := 36) g6 (by decide) (by simp only [List.length_append, lK36, lK42, lK43, lK36, lK32]; have := dgt_len (n := k); have := dgt_len (n := 1 + blw (sF (cel xs N) k) 20); have := dgt_len (n := 1 + blw (sF (cel xs N) k >>> (4 &&& 31)) 12); omega)
  have e7 : xe (ixP fv) (d + 4 + 4) 157 0 [some (.ref o), some (.ref 73)] [] h6 = some (.inl (some (.ref o)), h7) := e7
  obtain ⟨h8, v8, e8, g8, z8, y8⟩ := LB_int (fv := fv) (d := d + 4) (m := 1 + blw (sF (cel xs N) k >>> (4 &&& 31)) 12) g7 (by omega) (by simp only [List.length_append, lK42, lK43, lK36, lK32]; have := dgt_len (n := k); have := dgt_len (n := 1 + blw (sF (cel xs N) k) 20); have := dgt_len (n := 1 + blw (sF (cel xs N) k >>> (4 &&& 31)) 12); omega)
  obtain ⟨h9, v9, e9, g9, z9, y9⟩ := LB_app (fv := fv) (d := d + 4) (k := 32) g8 (by decide) (by simp only [List.length_append, lK32, lK42, lK43, lK36, lK32]; have := dgt_len (n := k); have := dgt_len (n := 1 + blw (sF (cel xs N) k) 20); have := dgt_len (n := 1 + blw (sF (cel xs N) k >>> (4 &&& 31)) 12); omega)
  have e9 : xe (ixP fv) (d + 4 + 4) 157 0 [some (.ref o), some (.ref 65)] [] h8 = some (.inl (some (.ref o)), h9) := e9
  have hf := fun ty fin Y => LB_f5 (fv := fv) (ty := ty) (fin := fin) (Y := Y) g
  have hn1 := LB_n (fv := fv) (t := 5) g (by decide) (by decide)
  have hc1 : ¬ nI (n 5) ≤ nI k := nI_ge hk (by omega)
  have up : k < upT c 5 (k + 1) 5 := by rw [upT_e]; exact Nat.lt_succ_self k
  have hf5 := fun ty fin Y => LB_f5 (fv := fv) (ty := ty) (fin := fin) (Y := Y) g5
  have hq5 := LB_q (fv := fv) (t := 5) (r := k) g5 (by decide) (by decide) up
  have ha5 : rA h5 (upR D 5 k h.length 5 k) 1 = some (.int (nI (1 + blw (sF (cel xs N) k) 20))) := LB_a (t := 5) (r := k) (m := 1) g5 (by decide) (by decide) up (by decide)
  have hf7 := fun ty fin Y => LB_f5 (fv := fv) (ty := ty) (fin := fin) (Y := Y) g7
  have hq7 := LB_q (fv := fv) (t := 5) (r := k) g7 (by decide) (by decide) up
  have ha7 : rA h7 (upR D 5 k h.length 5 k) 2 = some (.int (nI (1 + blw (sF (cel xs N) k >>> (4 &&& 31)) 12))) := LB_a (t := 5) (r := k) (m := 2) g7 (by decide) (by decide) up (by decide)
  have w0 : ∀ (F : Nat → Int32) (x : Int32), wA (ixP fv) (h ++ [.inl (0, 4, .inl F)]) h.length 0 x = some (h ++ [.inl (0, 4, .inl (upd F 0 x))]) := fun F x => wE (j := 0) g.2.2.1 (by decide) (by decide)
  have w1 : ∀ (F : Nat → Int32) (x : Int32), wA (ixP fv) (h ++ [.inl (0, 4, .inl F)]) h.length 1 x = some (h ++ [.inl (0, 4, .inl (upd F 1 x))]) := fun F x => wE (j := 1) g.2.2.1 (by decide) (by decide)
  have w2 : ∀ (F : Nat → Int32) (x : Int32), wA (ixP fv) (h ++ [.inl (0, 4, .inl F)]) h.length 2 x = some (h ++ [.inl (0, 4, .inl (upd F 2 x))]) := fun F x => wE (j := 2) g.2.2.1 (by decide) (by decide)
  have w3 : ∀ (F : Nat → Int32) (x : Int32), wA (ixP fv) (h ++ [.inl (0, 4, .inl F)]) h.length 3 x = some (h ++ [.inl (0, 4, .inl (upd F 3 x))]) := fun F x => wE (j := 3) g.2.2.1 (by decide) (by decide)
  have b20 : ∀ (h : ix_H) (d : Nat) (y : Int32), xe (ixP fv) d 167 0 [some (.int y), some (.int 20)] [] h = some (.inl (some (.int (nI (blw y 20)))), h) := e167 (m := 20) (by decide) (by decide)
  have b12 : ∀ (h : ix_H) (d : Nat) (y : Int32), xe (ixP fv) d 167 0 [some (.int y), some (.int 12)] [] h = some (.inl (some (.int (nI (blw y 12)))), h) := e167 (m := 12) (by decide) (by decide)
  have bn := e167 (fv := fv) (m := n2 (cel xs N)) (by omega) (by omega)
  have ce7 : ∀ d, xe (ixP fv) d 168 0 [some (.ref 0), some (.int 7)] [] h = some (.inl (some (.int ((cel xs N) 7))), h) := fun d => m168 (fv := fv) (d := d) (k := 7) (OK_0 g.2.1) hN (by decide)
  have kk : (4 : Int32).toNatClampNeg = 4 := nI_clamp (n := 4) (by decide)
  have bb : ix_big 4 = true := bg (m := 4) (by decide)
  have is2 := LB_is (fv := fv) g2
  have is3 := LB_is (fv := fv) g3
  have is4 := LB_is (fv := fv) g4
  have is5 := LB_is (fv := fv) g5
  have is6 := LB_is (fv := fv) g6
  have is7 := LB_is (fv := fv) g7
  have is8 := LB_is (fv := fv) g8
  have is9 := LB_is (fv := fv) g9
  have hone : ∀ z : Nat, 1 + nI z = nI (1 + z) := fun z => nI_add 1 z
  have ek : nI k + 1 = nI (k + 1) := nI_add k 1
  have sx : ((cel xs N) 7 >>> (5 * nI k &&& 31)) = sF (cel xs N) k := rfl
  refine ⟨h9, v9, _, g9, by omega, by omega, ?_⟩
  simp only [q172_645 (x := nI k), q172_647, q172_648, q172_651, q172_652, q172_655, q172_656, q172_658, q172_661, q172_662, q172_664, q172_665, q172_666, q172_668, q172_669, q172_672, q172_674, q172_677, q172_678, q172_679, q172_680, q172_681, q172_682, q172_683, q172_684, q172_686, q172_688, q172_691, q172_692, q172_693, q172_694, q172_695, q172_696, q172_698, q172_699, q172_700, q172_702, q172_705, q172_706, q172_707, q172_708, q172_709, q172_710, q172_711, q172_712, q172_713, q172_715, q172_718, q172_720, q172_723, q172_725, q172_728, q172_729, q172_732, q172_734, q172_735, q172_736, q172_737, q172_740, q172_742, q172_745, q172_746, q172_749, q172_751, q172_752, q172_753, q172_754, q172_757, q172_759, q172_762, q172_763, q172_766, q172_675 bb, i10, eq_self, ft0, ft1, b01_ft, k1r, k1i, xG_some, xH_some, xC_v, xC_n, if_true, if_false, not_true_eq_false, not_false_eq_true, ix_st, ix_st2, List.getElem?_cons_succ, List.getElem?_cons_zero, List.set_cons_succ, List.set_cons_zero, Value.category, List.map_cons, List.map_nil, List.sum_cons, List.sum_nil, Nat.reduceAdd, Nat.reduceLeDiff, Nat.reduceEqDiff, Nat.zero_le, reduceCtorEq, ↓reduceIte, eq_self, xit, hf, hn1, hc1, ce7, sx, b20, b12, bn, hone, kk, izI, w0, w1, w2, w3, eW, hf5, hq5, ha5, hf7, hq7, ha7, e3, e4, e5, e6, e7, e8, e9, ek, is2, is3, is4, is5, is6, is7, is8, is9]
theorem tx5_len : (tx5 (cel xs N) l k).length ≤ l.length + 32 := by
  have := dgt_len (n := k)
  have := dgt_len (n := 1 + blw (sF (cel xs N) k) 20)
  have := dgt_len (n := 1 + blw (sF (cel xs N) k >>> (4 &&& 31)) 12)
  unfold tx5
  simp only [List.length_append, lK42, lK43, lK36, lK32]
  omega
theorem t5_all (hn : n 5 ≤ 3) (hN : N ≤ 300) : ∀ (r k : Nat) (h : ix_H) (v : Nat) (l : List Int32) (D : Nat → Nat → Nat) (c : Nat → Nat) (l5 : Option Value), k + r = n 5 → LB N xs h o v l s X D n c (WM (cel xs N)) → c 5 = k → l.length + 32 * r ≤ 1500 → ∃ h' v' D' c' l5', LB N xs h' o v' (itr (fun k l => tx5 (cel xs N) l k) k r l) s X D' n c' (WM (cel xs N)) ∧ c' 5 = n 5 ∧ (∀ t', t' ≠ 5 → c' t' = c t') ∧ (itr (fun k l => tx5 (cel xs N) l k) k r l).length ≤ l.length + 32 * r ∧ h'.length ≤ h.length + 20 * r ∧ ix_sz h' ≤ ix_sz h + 60000 * r ∧ xe (ixP fv) (d + 9) 172 645 [some (.ref 0), some (.ref (o)), some (.ref (s)), some (.int (nI (n2 (cel xs N)))), some (.int (nI k)), l5, l6, l7, l8, l9, l10] [] h = xe (ixP fv) (d + 9) 172 769 [some (.ref 0), some (.ref (o)), some (.ref (s)), some (.int (nI (n2 (cel xs N)))), some (.int (nI (n 5))), l5', l6, l7, l8, l9, l10] [] h'
  | 0, k, h, v, l, D, c, l5, e, g, hc, hl => by
    have : k = n 5 := by omega
    subst this
    have hf := fun ty fin Y => LB_f5 (fv := fv) (ty := ty) (fin := fin) (Y := Y) g
    have hn1 := LB_n (fv := fv) (t := 5) g (by decide) (by decide)
    have hc1 : nI (n 5) ≤ nI (n 5) := Int32.le_refl _
    refine ⟨h, v, D, c, l5, g, hc, fun _ _ => rfl, Nat.le_refl _, Nat.le_refl _, Nat.le_refl _, ?_⟩
    simp only [q172_645 (x := nI (n 5)), q172_647, q172_648, q172_651, q172_652, i10, eq_self, ft0, ft1, b01_ft, k1r, k1i, xG_some, xH_some, xC_v, xC_n, if_true, if_false, not_true_eq_false, not_false_eq_true, ix_st, ix_st2, List.getElem?_cons_succ, List.getElem?_cons_zero, List.set_cons_succ, List.set_cons_zero, Value.category, List.map_cons, List.map_nil, List.sum_cons, List.sum_nil, Nat.reduceAdd, Nat.reduceLeDiff, Nat.reduceEqDiff, Nat.zero_le, reduceCtorEq, ↓reduceIte, eq_self, xit, hf, hn1, hc1]
  | r + 1, k, h, v, l, D, c, l5, e, g, hc, hl => by
    have tl := tx5_len (k := k) (l := l) (N := N) (xs := xs)
    obtain ⟨h1, v1, D1, g1, z1, y1, e1⟩ := t5_step (fv := fv) (d := d) (l5 := l5) (l6 := l6) (l7 := l7) (l8 := l8) (l9 := l9) (l10 := l10) g hc (by omega) hn hN (by omega)
    obtain ⟨h2, v2, D2, c2, m5, g2, q2, q3, p2, z2, y2, e2⟩ := t5_all hn hN r (k + 1) h1 v1 (tx5 (cel xs N) l k) D1 (upT c 5 (k + 1)) (some (.int (sF (cel xs N) k))) (by omega) g1 upT_e (by omega)
    exact ⟨h2, v2, D2, c2, m5, g2, q2, fun t' ht => (q3 t' ht).trans (if_neg ht), Nat.le_trans p2 (by omega), by omega, by omega, e1.trans e2⟩
end ST5
