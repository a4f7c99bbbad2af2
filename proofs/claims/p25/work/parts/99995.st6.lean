/-! THE START: sums and tests as strings (written by gen99995.py). -/
/-- a fresh builder behind b -/
def SN (N : Nat) (xs : Nat → Int32) (b h : ix_H) (o v : Nat) (l : List Int32) : Prop := isSB h o v l ∧ OK N xs h ∧ b.length ≤ h.length ∧ (∀ q, q < b.length → h[q]? = b[q]?) ∧ b.length ≤ o ∧ b.length ≤ v ∧ 98 ≤ b.length
/-- a string that came behind b -/
def SS (N : Nat) (xs : Nat → Int32) (b h : ix_H) (q w : Nat) (l : List Int32) : Prop := isStr h q w l ∧ OK N xs h ∧ b.length ≤ h.length ∧ (∀ q, q < b.length → h[q]? = b[q]?) ∧ (w < 98 ∨ b.length ≤ w)
section ST6
variable {fv : Value} {d : Nat} {b h : ix_H} {o v k m N a : Nat} {xs : Nat → Int32} {l : List Int32} {R : Nat → Int32}
theorem SN_new (hO : OK N xs b) (h98 : 98 ≤ b.length) : ∃ h', xe (ixP fv) (d + 1) 156 0 [some (.ref b.length)] [] (b ++ [.inr (9, [defaultValue (.array .byte), defaultValue .byte, defaultValue .boolean, defaultValue .int])]) = some (.inl none, h') ∧ SN N xs b h' b.length (b.length + 1) [] ∧ h'.length ≤ b.length + 2 ∧ ix_sz h' ≤ ix_sz b + 30 := by
  obtain ⟨h', e1, e2, e3, e4, e5⟩ := m156 (fv := fv) (d := d) (h := b ++ [.inr (9, [defaultValue (.array .byte), defaultValue .byte, defaultValue .boolean, defaultValue .int])]) (o := b.length) (x0 := .null) (x1 := .int 0) (mb := .int 0) get_end h98
  have ln : (b ++ [(.inr (9, [defaultValue (.array .byte), defaultValue .byte, defaultValue .boolean, defaultValue .int]) : ix_C)]).length = b.length + 1 := by rw [List.length_append]; rfl
  rw [ln] at e2 e3 e4
  rw [ix_sz_push] at e5
  have kp : ∀ q, q < b.length → h'[q]? = b[q]? := fun q hq => (e3.2 q (by omega) (by omega) (by omega)).trans (List.getElem?_append_left hq)
  have hcs : ix_cs (.inr (9, [defaultValue (.array .byte), defaultValue .byte, defaultValue .boolean, defaultValue .int])) ≤ 14 := by decide
  exact ⟨h', e1, ⟨e2, fun q hq => (kp q (by omega)).trans (hO q hq), by omega, kp, Nat.le_refl _, Nat.le_succ _, h98⟩, by omega, by omega⟩
theorem SN_app (g : SN N xs b h o v l) (hk : k < 47) (hl : l.length + (sK k).length ≤ 2000) : ∃ h' v', xe (ixP fv) (d + 4) 157 0 [some (.ref o), some (.ref (2 * k + 1))] [] h = some (.inl (some (.ref o)), h') ∧ SN N xs b h' o v' (l ++ sK k) ∧ h'.length ≤ h.length + 1 ∧ ix_sz h' ≤ ix_sz h + 4002 := by
  obtain ⟨g1, g2, g3, g4, g5, g6, g7⟩ := g
  obtain ⟨h', v', e1, e2, e3, e4, e5, e6⟩ := m157 (fv := fv) (d := d) g1 (OK_str g2 hk) (by omega) (by omega)
  exact ⟨h', v', e1, ⟨e2, fun q hq => (e4.2 q (by omega) (by omega) (by omega)).trans (g2 q hq), Nat.le_trans g3 e4.1, fun q hq => (e4.2 q (by omega) (by omega) (by omega)).trans (g4 q hq), g5, by omega, g7⟩, e5, by omega⟩
theorem SN_int (g : SN N xs b h o v l) (hm : m < 1000) (hl : l.length ≤ 1990) : ∃ h' v', xe (ixP fv) (d + 4) 158 0 [some (.ref o), some (.int (nI m))] [] h = some (.inl (some (.ref o)), h') ∧ SN N xs b h' o v' (l ++ dgt m) ∧ h'.length ≤ h.length + 1 ∧ ix_sz h' ≤ ix_sz h + 4002 := by
  obtain ⟨g1, g2, g3, g4, g5, g6, g7⟩ := g
  obtain ⟨h', v', e1, e2, e3, e4, e5, e6⟩ := m158 (fv := fv) (d := d) g1 (OK_old g2) hm (by omega)
  exact ⟨h', v', e1, ⟨e2, fun q hq => (e4.2 q (by omega) (by omega) (by omega)).trans (g2 q hq), Nat.le_trans g3 e4.1, fun q hq => (e4.2 q (by omega) (by omega) (by omega)).trans (g4 q hq), g5, by omega, g7⟩, e5, by omega⟩
theorem SN_str (g : SN N xs b h o v l) (hl : l.length ≤ 2000) : ∃ h', xe (ixP fv) (d + 5) 159 0 [some (.ref o)] [] h = some (.inl (some (.ref h.length)), h') ∧ SS N xs b h' h.length (h.length + 1) l ∧ h'.length ≤ h.length + 2 ∧ ix_sz h' ≤ ix_sz h + 2010 := by
  obtain ⟨g1, g2, g3, g4, g5, g6, g7⟩ := g
  obtain ⟨h', e1, e2, e3, e4, e5⟩ := m159 (fv := fv) (d := d) g1 (by omega)
  exact ⟨h', e1, ⟨e2, fun q hq => (e3 q (by omega)).trans (g2 q hq), by omega, fun q hq => (e3 q (by omega)).trans (g4 q hq), Or.inr (by omega)⟩, by omega, by omega⟩
theorem SN_is (g : SN N xs b h o v l) : ix_is (ixP fv) h o "java/lang/StringBuilder" = true := by
  obtain ⟨cap, a, mb, e1, -⟩ := g.1
  exact isSb e1
theorem SN_r (g : SN N xs b h o v l) (hr : b[a]? = some (.inl (0, 10, .inl R))) (hj : k < 10) : rA h a (nI k) = some (.int (R k)) := by
  rw [rA_of ((g.2.2.2.1 a (lt_of hr)).trans hr) (in_big hj (by omega)), nI_clamp (by omega)]
/-- a sum's text -/
def smT (a2 a3 a6 a8 a9 : Nat) : List Int32 := if a2 = 0 then sK 2 ++ dgt (a3 % 45) else if a2 = 1 then sK 3 ++ dgt a8 ++ sK 4 ++ dgt a6 ++ sK 5 else if a2 = 2 then sK 6 ++ dgt a6 ++ sK 7 ++ dgt a3 ++ sK 8 else if a2 = 3 then sK 9 ++ dgt a9 ++ sK 10 else if a2 = 4 then sK 11 else sK 12 ++ dgt a6
/-- a test's text -/
def teT (a4 a5 a6 a7 a8 a9 : Nat) : List Int32 := if a4 = 8 then sK 2 else if a4 = 0 then sK 13 ++ dgt a5 ++ sK 14 else if a4 = 1 then sK 15 ++ dgt a7 else if a4 = 2 then sK 16 ++ dgt a7 else if a4 = 3 then sK 17 ++ dgt a6 ++ sK 18 ++ dgt a5 else if a4 = 4 then sK 19 ++ dgt a8 ++ sK 20 ++ dgt a8 ++ sK 21 ++ dgt a6 else if a4 = 5 then sK 22 ++ dgt a5 ++ sK 23 ++ dgt a5 else if a4 = 6 then sK 24 ++ dgt a6 ++ sK 25 ++ dgt a5 ++ sK 26 ++ dgt a9 else sK 27 ++ dgt a5 ++ sK 28 ++ dgt a5
theorem m170_0 {a3 : Nat} (hO : OK N xs b) (h98 : 98 ≤ b.length) (hr : b[a]? = some (.inl (0, 10, .inl R))) (hs : R 2 = 0) (R3 : R 3 = nI a3) (b3 : a3 < 130) : ∃ h' q w, xe (ixP fv) (d + 8) 170 0 [some (.ref a), none] [] b = some (.inl (some (.ref q)), h') ∧ SS N xs b h' q w (sK 2 ++ dgt (a3 % 45)) ∧ h'.length ≤ b.length + 20 ∧ ix_sz h' ≤ ix_sz b + 40000 := by
  obtain ⟨h1, eN, g1, z1, y1⟩ := SN_new (fv := fv) (d := d + 6) hO h98
  have isN : ix_is (ixP fv) (b ++ [.inr (9, [defaultValue (.array .byte), defaultValue .byte, defaultValue .boolean, defaultValue .int])]) b.length "java/lang/StringBuilder" = true := is_of get_end (by decide +kernel)
  obtain ⟨h2, v2, e2, g2, z2, y2⟩ := SN_app (fv := fv) (d := d + 3) (k := 2) g1 (by decide) (by simp only [List.length_append, List.length_nil, lK2, lK2]; have := dgt_len (n := (a3 % 45)); omega)
  have e2 : xe (ixP fv) (d + 3 + 4) 157 0 [some (.ref b.length), some (.ref 5)] [] h1 = some (.inl (some (.ref b.length)), h2) := e2
  obtain ⟨h3, v3, e3, g3, z3, y3⟩ := SN_int (fv := fv) (d := d + 3) (m := (a3 % 45)) g2 (by omega) (by simp only [List.length_append, List.length_nil, lK2]; have := dgt_len (n := (a3 % 45)); omega)
  obtain ⟨h4, eT, gT, zT, yT⟩ := SN_str (fv := fv) (d := d + 2) g3 (by simp only [List.length_append, List.length_nil, lK2]; have := dgt_len (n := (a3 % 45)); omega)
  have is1 := SN_is (fv := fv) g1
  have is2 := SN_is (fv := fv) g2
  have is3 := SN_is (fv := fv) g3
  have x1 : rA b a 3 = some (.int (nI a3)) := (rA_of (i := nI 3) hr (by decide)).trans (congrArg (fun z => some (Value.int z)) R3)
  have x2 : rA b a 2 = some (.int (0)) := (rA_of (i := nI 2) hr (by decide)).trans (congrArg (fun z => some (Value.int z)) hs)
  have c8 : (([] : List Value).map Value.category).sum ≤ 8 := by decide
  have c45 : (45 : Int32) ≠ 0 := by decide
  have hm : nI a3 - nI a3 / 45 * 45 = nI (a3 % 45) := by
    show nI a3 - nI a3 / nI 45 * nI 45 = _
    rw [pk_div (a := a3) (d := 45) (by omega) (by omega) (by omega), pk_mul, pk_sub (Nat.div_mul_le_self a3 45)]
    congr 1
    omega

  refine ⟨h4, h3.length, h3.length + 1, ?_, gT, by omega, by omega⟩
  simp only [q170_0, q170_1, q170_2, q170_3, q170_4, q170_5, q170_6, q170_7, q170_40, q170_43, q170_47, q170_49, q170_52, q170_53, q170_56, q170_59, q170_62 (st := []), q170_44, q170_55 c45, i10, eq_self, ft0, ft1, b01_ft, k1r, k1i, xG_some, xH_some, xC_v, xC_n, if_true, if_false, not_true_eq_false, not_false_eq_true, ix_st, ix_st2, List.getElem?_cons_succ, List.getElem?_cons_zero, List.set_cons_succ, List.set_cons_zero, Value.category, List.map_cons, List.map_nil, List.sum_cons, List.sum_nil, Nat.reduceAdd, Nat.reduceLeDiff, Nat.reduceEqDiff, Nat.zero_le, reduceCtorEq, ↓reduceIte, eq_self, xit, x1, x2, eq_self, isN, eN, e2, e3, is1, is2, is3, eT, hm, c45]
theorem m170_1 {a3 a6 a8 : Nat} (hO : OK N xs b) (h98 : 98 ≤ b.length) (hr : b[a]? = some (.inl (0, 10, .inl R))) (hs : R 2 = 1) (R3 : R 3 = nI a3) (b3 : a3 < 130) (R6 : R 6 = nI a6) (b6 : a6 < 130) (R8 : R 8 = nI a8) (b8 : a8 < 130) : ∃ h' q w, xe (ixP fv) (d + 8) 170 0 [some (.ref a), none] [] b = some (.inl (some (.ref q)), h') ∧ SS N xs b h' q w (sK 3 ++ dgt a8 ++ sK 4 ++ dgt a6 ++ sK 5) ∧ h'.length ≤ b.length + 20 ∧ ix_sz h' ≤ ix_sz b + 40000 := by
  obtain ⟨h1, eN, g1, z1, y1⟩ := SN_new (fv := fv) (d := d + 6) hO h98
  have isN : ix_is (ixP fv) (b ++ [.inr (9, [defaultValue (.array .byte), defaultValue .byte, defaultValue .boolean, defaultValue .int])]) b.length "java/lang/StringBuilder" = true := is_of get_end (by decide +kernel)
  obtain ⟨h2, v2, e2, g2, z2, y2⟩ := SN_app (fv := fv) (d := d + 3) (k := 3) g1 (by decide) (by simp only [List.length_append, List.length_nil, lK3, lK3, lK4, lK5]; have := dgt_len (n := a8); have := dgt_len (n := a6); omega)
  have e2 : xe (ixP fv) (d + 3 + 4) 157 0 [some (.ref b.length), some (.ref 7)] [] h1 = some (.inl (some (.ref b.length)), h2) := e2
  obtain ⟨h3, v3, e3, g3, z3, y3⟩ := SN_int (fv := fv) (d := d + 3) (m := a8) g2 (by omega) (by simp only [List.length_append, List.length_nil, lK3, lK4, lK5]; have := dgt_len (n := a8); have := dgt_len (n := a6); omega)
  obtain ⟨h4, v4, e4, g4, z4, y4⟩ := SN_app (fv := fv) (d := d + 3) (k := 4) g3 (by decide) (by simp only [List.length_append, List.length_nil, lK4, lK3, lK4, lK5]; have := dgt_len (n := a8); have := dgt_len (n := a6); omega)
  have e4 : xe (ixP fv) (d + 3 + 4) 157 0 [some (.ref b.length), some (.ref 9)] [] h3 = some (.inl (some (.ref b.length)), h4) := e4
  obtain ⟨h5, v5, e5, g5, z5, y5⟩ := SN_int (fv := fv) (d := d + 3) (m := a6) g4 (by omega) (by simp only [List.length_append, List.length_nil, lK3, lK4, lK5]; have := dgt_len (n := a8); have := dgt_len (n := a6); omega)
  obtain ⟨h6, v6, e6, g6, z6, y6⟩ := SN_app (fv := fv) (d := d + 3) (k := 5) g5 (by decide) (by simp only [List.length_append, List.length_nil, lK5, lK3, lK4, lK5]; have := dgt_len (n := a8); have := dgt_len (n := a6); omega)
  have e6 : xe (ixP fv) (d + 3 + 4) 157 0 [some (.ref b.length), some (.ref 11)] [] h5 = some (.inl (some (.ref b.length)), h6) := e6
  obtain ⟨h7, eT, gT, zT, yT⟩ := SN_str (fv := fv) (d := d + 2) g6 (by simp only [List.length_append, List.length_nil, lK3, lK4, lK5]; have := dgt_len (n := a8); have := dgt_len (n := a6); omega)
  have is1 := SN_is (fv := fv) g1
  have is2 := SN_is (fv := fv) g2
  have is3 := SN_is (fv := fv) g3
  have is4 := SN_is (fv := fv) g4
  have is5 := SN_is (fv := fv) g5
  have is6 := SN_is (fv := fv) g6
  have r2 : rA h2 a 8 = some (.int (nI a8)) := (SN_r (k := 8) g2 hr (by decide)).trans (by rw [R8])
  have r4 : rA h4 a 6 = some (.int (nI a6)) := (SN_r (k := 6) g4 hr (by decide)).trans (by rw [R6])
  have x1 : rA b a 3 = some (.int (nI a3)) := (rA_of (i := nI 3) hr (by decide)).trans (congrArg (fun z => some (Value.int z)) R3)
  have x2 : rA b a 2 = some (.int (1)) := (rA_of (i := nI 2) hr (by decide)).trans (congrArg (fun z => some (Value.int z)) hs)
  have c8 : (([] : List Value).map Value.category).sum ≤ 8 := by decide
  
  refine ⟨h7, h6.length, h6.length + 1, ?_, gT, by omega, by omega⟩
  simp only [q170_0, q170_1, q170_2, q170_3, q170_4, q170_5, q170_6, q170_7, q170_63, q170_66, q170_70, q170_72, q170_75, q170_76, q170_78, q170_79, q170_82, q170_84, q170_87, q170_88, q170_90, q170_91, q170_94, q170_96, q170_99, q170_102 (st := []), q170_67, i10, eq_self, ft0, ft1, b01_ft, k1r, k1i, xG_some, xH_some, xC_v, xC_n, if_true, if_false, not_true_eq_false, not_false_eq_true, ix_st, ix_st2, List.getElem?_cons_succ, List.getElem?_cons_zero, List.set_cons_succ, List.set_cons_zero, Value.category, List.map_cons, List.map_nil, List.sum_cons, List.sum_nil, Nat.reduceAdd, Nat.reduceLeDiff, Nat.reduceEqDiff, Nat.zero_le, reduceCtorEq, ↓reduceIte, eq_self, xit, x1, x2, (eq_false (show ¬ (1 : Int32) = 0 by decide)), isN, eN, e2, e3, e4, e5, e6, is1, is2, is3, is4, is5, is6, r2, r4, eT]
theorem m170_2 {a3 a6 : Nat} (hO : OK N xs b) (h98 : 98 ≤ b.length) (hr : b[a]? = some (.inl (0, 10, .inl R))) (hs : R 2 = 2) (R3 : R 3 = nI a3) (b3 : a3 < 130) (R6 : R 6 = nI a6) (b6 : a6 < 130) : ∃ h' q w, xe (ixP fv) (d + 8) 170 0 [some (.ref a), none] [] b = some (.inl (some (.ref q)), h') ∧ SS N xs b h' q w (sK 6 ++ dgt a6 ++ sK 7 ++ dgt a3 ++ sK 8) ∧ h'.length ≤ b.length + 20 ∧ ix_sz h' ≤ ix_sz b + 40000 := by
  obtain ⟨h1, eN, g1, z1, y1⟩ := SN_new (fv := fv) (d := d + 6) hO h98
  have isN : ix_is (ixP fv) (b ++ [.inr (9, [defaultValue (.array .byte), defaultValue .byte, defaultValue .boolean, defaultValue .int])]) b.length "java/lang/StringBuilder" = true := is_of get_end (by decide +kernel)
  obtain ⟨h2, v2, e2, g2, z2, y2⟩ := SN_app (fv := fv) (d := d + 3) (k := 6) g1 (by decide) (by simp only [List.length_append, List.length_nil, lK6, lK6, lK7, lK8]; have := dgt_len (n := a6); have := dgt_len (n := a3); omega)
  have e2 : xe (ixP fv) (d + 3 + 4) 157 0 [some (.ref b.length), some (.ref 13)] [] h1 = some (.inl (some (.ref b.length)), h2) := e2
  obtain ⟨h3, v3, e3, g3, z3, y3⟩ := SN_int (fv := fv) (d := d + 3) (m := a6) g2 (by omega) (by simp only [List.length_append, List.length_nil, lK6, lK7, lK8]; have := dgt_len (n := a6); have := dgt_len (n := a3); omega)
  obtain ⟨h4, v4, e4, g4, z4, y4⟩ := SN_app (fv := fv) (d := d + 3) (k := 7) g3 (by decide) (by simp only [List.length_append, List.length_nil, lK7, lK6, lK7, lK8]; have := dgt_len (n := a6); have := dgt_len (n := a3); omega)
  have e4 : xe (ixP fv) (d + 3 + 4) 157 0 [some (.ref b.length), some (.ref 15)] [] h3 = some (.inl (some (.ref b.length)), h4) := e4
  obtain ⟨h5, v5, e5, g5, z5, y5⟩ := SN_int (fv := fv) (d := d + 3) (m := a3) g4 (by omega) (by simp only [List.length_append, List.length_nil, lK6, lK7, lK8]; have := dgt_len (n := a6); have := dgt_len (n := a3); omega)
  obtain ⟨h6, v6, e6, g6, z6, y6⟩ := SN_app (fv := fv) (d := d + 3) (k := 8) g5 (by decide) (by simp only [List.length_append, List.length_nil, lK8, lK6, lK7, lK8]; have := dgt_len (n := a6); have := dgt_len (n := a3); omega)
  have e6 : xe (ixP fv) (d + 3 + 4) 157 0 [some (.ref b.length), some (.ref 17)] [] h5 = some (.inl (some (.ref b.length)), h6) := e6
  obtain ⟨h7, eT, gT, zT, yT⟩ := SN_str (fv := fv) (d := d + 2) g6 (by simp only [List.length_append, List.length_nil, lK6, lK7, lK8]; have := dgt_len (n := a6); have := dgt_len (n := a3); omega)
  have is1 := SN_is (fv := fv) g1
  have is2 := SN_is (fv := fv) g2
  have is3 := SN_is (fv := fv) g3
  have is4 := SN_is (fv := fv) g4
  have is5 := SN_is (fv := fv) g5
  have is6 := SN_is (fv := fv) g6
  have r2 : rA h2 a 6 = some (.int (nI a6)) := (SN_r (k := 6) g2 hr (by decide)).trans (by rw [R6])
  have x1 : rA b a 3 = some (.int (nI a3)) := (rA_of (i := nI 3) hr (by decide)).trans (congrArg (fun z => some (Value.int z)) R3)
  have x2 : rA b a 2 = some (.int (2)) := (rA_of (i := nI 2) hr (by decide)).trans (congrArg (fun z => some (Value.int z)) hs)
  have c8 : (([] : List Value).map Value.category).sum ≤ 8 := by decide
  
  refine ⟨h7, h6.length, h6.length + 1, ?_, gT, by omega, by omega⟩
  simp only [q170_0, q170_1, q170_2, q170_3, q170_4, q170_5, q170_6, q170_7, q170_103, q170_106, q170_110, q170_112, q170_115, q170_116, q170_118, q170_119, q170_122, q170_124, q170_127, q170_128, q170_131, q170_133, q170_136, q170_139 (st := []), q170_107, i10, eq_self, ft0, ft1, b01_ft, k1r, k1i, xG_some, xH_some, xC_v, xC_n, if_true, if_false, not_true_eq_false, not_false_eq_true, ix_st, ix_st2, List.getElem?_cons_succ, List.getElem?_cons_zero, List.set_cons_succ, List.set_cons_zero, Value.category, List.map_cons, List.map_nil, List.sum_cons, List.sum_nil, Nat.reduceAdd, Nat.reduceLeDiff, Nat.reduceEqDiff, Nat.zero_le, reduceCtorEq, ↓reduceIte, eq_self, xit, x1, x2, (eq_false (show ¬ (2 : Int32) = 0 by decide)), (eq_false (show ¬ (2 : Int32) = 1 by decide)), isN, eN, e2, e3, e4, e5, e6, is1, is2, is3, is4, is5, is6, r2, eT]
theorem m170_3 {a3 a9 : Nat} (hO : OK N xs b) (h98 : 98 ≤ b.length) (hr : b[a]? = some (.inl (0, 10, .inl R))) (hs : R 2 = 3) (R3 : R 3 = nI a3) (b3 : a3 < 130) (R9 : R 9 = nI a9) (b9 : a9 < 130) : ∃ h' q w, xe (ixP fv) (d + 8) 170 0 [some (.ref a), none] [] b = some (.inl (some (.ref q)), h') ∧ SS N xs b h' q w (sK 9 ++ dgt a9 ++ sK 10) ∧ h'.length ≤ b.length + 20 ∧ ix_sz h' ≤ ix_sz b + 40000 := by
  obtain ⟨h1, eN, g1, z1, y1⟩ := SN_new (fv := fv) (d := d + 6) hO h98
  have isN : ix_is (ixP fv) (b ++ [.inr (9, [defaultValue (.array .byte), defaultValue .byte, defaultValue .boolean, defaultValue .int])]) b.length "java/lang/StringBuilder" = true := is_of get_end (by decide +kernel)
  obtain ⟨h2, v2, e2, g2, z2, y2⟩ := SN_app (fv := fv) (d := d + 3) (k := 9) g1 (by decide) (by simp only [List.length_append, List.length_nil, lK9, lK9, lK10]; have := dgt_len (n := a9); omega)
  have e2 : xe (ixP fv) (d + 3 + 4) 157 0 [some (.ref b.length), some (.ref 19)] [] h1 = some (.inl (some (.ref b.length)), h2) := e2
  obtain ⟨h3, v3, e3, g3, z3, y3⟩ := SN_int (fv := fv) (d := d + 3) (m := a9) g2 (by omega) (by simp only [List.length_append, List.length_nil, lK9, lK10]; have := dgt_len (n := a9); omega)
  obtain ⟨h4, v4, e4, g4, z4, y4⟩ := SN_app (fv := fv) (d := d + 3) (k := 10) g3 (by decide) (by simp only [List.length_append, List.length_nil, lK10, lK9, lK10]; have := dgt_len (n := a9); omega)
  have e4 : xe (ixP fv) (d + 3 + 4) 157 0 [some (.ref b.length), some (.ref 21)] [] h3 = some (.inl (some (.ref b.length)), h4) := e4
  obtain ⟨h5, eT, gT, zT, yT⟩ := SN_str (fv := fv) (d := d + 2) g4 (by simp only [List.length_append, List.length_nil, lK9, lK10]; have := dgt_len (n := a9); omega)
  have is1 := SN_is (fv := fv) g1
  have is2 := SN_is (fv := fv) g2
  have is3 := SN_is (fv := fv) g3
  have is4 := SN_is (fv := fv) g4
  have r2 : rA h2 a 9 = some (.int (nI a9)) := (SN_r (k := 9) g2 hr (by decide)).trans (by rw [R9])
  have x1 : rA b a 3 = some (.int (nI a3)) := (rA_of (i := nI 3) hr (by decide)).trans (congrArg (fun z => some (Value.int z)) R3)
  have x2 : rA b a 2 = some (.int (3)) := (rA_of (i := nI 2) hr (by decide)).trans (congrArg (fun z => some (Value.int z)) hs)
  have c8 : (([] : List Value).map Value.category).sum ≤ 8 := by decide
  
  refine ⟨h5, h4.length, h4.length + 1, ?_, gT, by omega, by omega⟩
  simp only [q170_0, q170_1, q170_2, q170_3, q170_4, q170_5, q170_6, q170_7, q170_140, q170_143, q170_147, q170_149, q170_152, q170_153, q170_155, q170_156, q170_159, q170_161, q170_164, q170_167 (st := []), q170_144, i10, eq_self, ft0, ft1, b01_ft, k1r, k1i, xG_some, xH_some, xC_v, xC_n, if_true, if_false, not_true_eq_false, not_false_eq_true, ix_st, ix_st2, List.getElem?_cons_succ, List.getElem?_cons_zero, List.set_cons_succ, List.set_cons_zero, Value.category, List.map_cons, List.map_nil, List.sum_cons, List.sum_nil, Nat.reduceAdd, Nat.reduceLeDiff, Nat.reduceEqDiff, Nat.zero_le, reduceCtorEq, ↓reduceIte, eq_self, xit, x1, x2, (eq_false (show ¬ (3 : Int32) = 0 by decide)), (eq_false (show ¬ (3 : Int32) = 1 by decide)), (eq_false (show ¬ (3 : Int32) = 2 by decide)), isN, eN, e2, e3, e4, is1, is2, is3, is4, r2, eT]
theorem m170_5 {a3 a6 : Nat} (hO : OK N xs b) (h98 : 98 ≤ b.length) (hr : b[a]? = some (.inl (0, 10, .inl R))) (hs : R 2 = 5) (R3 : R 3 = nI a3) (b3 : a3 < 130) (R6 : R 6 = nI a6) (b6 : a6 < 130) : ∃ h' q w, xe (ixP fv) (d + 8) 170 0 [some (.ref a), none] [] b = some (.inl (some (.ref q)), h') ∧ SS N xs b h' q w (sK 12 ++ dgt a6) ∧ h'.length ≤ b.length + 20 ∧ ix_sz h' ≤ ix_sz b + 40000 := by
  obtain ⟨h1, eN, g1, z1, y1⟩ := SN_new (fv := fv) (d := d + 6) hO h98
  have isN : ix_is (ixP fv) (b ++ [.inr (9, [defaultValue (.array .byte), defaultValue .byte, defaultValue .boolean, defaultValue .int])]) b.length "java/lang/StringBuilder" = true := is_of get_end (by decide +kernel)
  obtain ⟨h2, v2, e2, g2, z2, y2⟩ := SN_app (fv := fv) (d := d + 3) (k := 12) g1 (by decide) (by simp only [List.length_append, List.length_nil, lK12, lK12]; have := dgt_len (n := a6); omega)
  have e2 : xe (ixP fv) (d + 3 + 4) 157 0 [some (.ref b.length), some (.ref 25)] [] h1 = some (.inl (some (.ref b.length)), h2) := e2
  obtain ⟨h3, v3, e3, g3, z3, y3⟩ := SN_int (fv := fv) (d := d + 3) (m := a6) g2 (by omega) (by simp only [List.length_append, List.length_nil, lK12]; have := dgt_len (n := a6); omega)
  obtain ⟨h4, eT, gT, zT, yT⟩ := SN_str (fv := fv) (d := d + 2) g3 (by simp only [List.length_append, List.length_nil, lK12]; have := dgt_len (n := a6); omega)
  have is1 := SN_is (fv := fv) g1
  have is2 := SN_is (fv := fv) g2
  have is3 := SN_is (fv := fv) g3
  have r2 : rA h2 a 6 = some (.int (nI a6)) := (SN_r (k := 6) g2 hr (by decide)).trans (by rw [R6])
  have x1 : rA b a 3 = some (.int (nI a3)) := (rA_of (i := nI 3) hr (by decide)).trans (congrArg (fun z => some (Value.int z)) R3)
  have x2 : rA b a 2 = some (.int (5)) := (rA_of (i := nI 2) hr (by decide)).trans (congrArg (fun z => some (Value.int z)) hs)
  have c8 : (([] : List Value).map Value.category).sum ≤ 8 := by decide
  
  refine ⟨h4, h3.length, h3.length + 1, ?_, gT, by omega, by omega⟩
  simp only [q170_0, q170_1, q170_2, q170_3, q170_4, q170_5, q170_6, q170_7, q170_171, q170_174, q170_178, q170_180, q170_183, q170_184, q170_186, q170_187, q170_190, q170_193 (st := []), q170_175, i10, eq_self, ft0, ft1, b01_ft, k1r, k1i, xG_some, xH_some, xC_v, xC_n, if_true, if_false, not_true_eq_false, not_false_eq_true, ix_st, ix_st2, List.getElem?_cons_succ, List.getElem?_cons_zero, List.set_cons_succ, List.set_cons_zero, Value.category, List.map_cons, List.map_nil, List.sum_cons, List.sum_nil, Nat.reduceAdd, Nat.reduceLeDiff, Nat.reduceEqDiff, Nat.zero_le, reduceCtorEq, ↓reduceIte, eq_self, xit, x1, x2, (eq_false (show ¬ (5 : Int32) = 0 by decide)), (eq_false (show ¬ (5 : Int32) = 1 by decide)), (eq_false (show ¬ (5 : Int32) = 2 by decide)), (eq_false (show ¬ (5 : Int32) = 3 by decide)), (eq_false (show ¬ (5 : Int32) = 4 by decide)), isN, eN, e2, e3, is1, is2, is3, r2, eT]
theorem m171_0 {a5 : Nat} (hO : OK N xs b) (h98 : 98 ≤ b.length) (hr : b[a]? = some (.inl (0, 10, .inl R))) (hs : R 4 = 0) (R5 : R 5 = nI a5) (b5 : a5 < 130) : ∃ h' q w, xe (ixP fv) (d + 8) 171 0 [some (.ref a), none] [] b = some (.inl (some (.ref q)), h') ∧ SS N xs b h' q w (sK 13 ++ dgt a5 ++ sK 14) ∧ h'.length ≤ b.length + 20 ∧ ix_sz h' ≤ ix_sz b + 40000 := by
  obtain ⟨h1, eN, g1, z1, y1⟩ := SN_new (fv := fv) (d := d + 6) hO h98
  have isN : ix_is (ixP fv) (b ++ [.inr (9, [defaultValue (.array .byte), defaultValue .byte, defaultValue .boolean, defaultValue .int])]) b.length "java/lang/StringBuilder" = true := is_of get_end (by decide +kernel)
  obtain ⟨h2, v2, e2, g2, z2, y2⟩ := SN_app (fv := fv) (d := d + 3) (k := 13) g1 (by decide) (by simp only [List.length_append, List.length_nil, lK13, lK13, lK14]; have := dgt_len (n := a5); omega)
  have e2 : xe (ixP fv) (d + 3 + 4) 157 0 [some (.ref b.length), some (.ref 27)] [] h1 = some (.inl (some (.ref b.length)), h2) := e2
  obtain ⟨h3, v3, e3, g3, z3, y3⟩ := SN_int (fv := fv) (d := d + 3) (m := a5) g2 (by omega) (by simp only [List.length_append, List.length_nil, lK13, lK14]; have := dgt_len (n := a5); omega)
  obtain ⟨h4, v4, e4, g4, z4, y4⟩ := SN_app (fv := fv) (d := d + 3) (k := 14) g3 (by decide) (by simp only [List.length_append, List.length_nil, lK14, lK13, lK14]; have := dgt_len (n := a5); omega)
  have e4 : xe (ixP fv) (d + 3 + 4) 157 0 [some (.ref b.length), some (.ref 29)] [] h3 = some (.inl (some (.ref b.length)), h4) := e4
  obtain ⟨h5, eT, gT, zT, yT⟩ := SN_str (fv := fv) (d := d + 2) g4 (by simp only [List.length_append, List.length_nil, lK13, lK14]; have := dgt_len (n := a5); omega)
  have is1 := SN_is (fv := fv) g1
  have is2 := SN_is (fv := fv) g2
  have is3 := SN_is (fv := fv) g3
  have is4 := SN_is (fv := fv) g4
  have x1 : rA b a 5 = some (.int (nI a5)) := (rA_of (i := nI 5) hr (by decide)).trans (congrArg (fun z => some (Value.int z)) R5)
  have x2 : rA b a 4 = some (.int (0)) := (rA_of (i := nI 4) hr (by decide)).trans (congrArg (fun z => some (Value.int z)) hs)
  have c8 : (([] : List Value).map Value.category).sum ≤ 8 := by decide
  
  refine ⟨h5, h4.length, h4.length + 1, ?_, gT, by omega, by omega⟩
  simp only [q171_0, q171_1, q171_2, q171_3, q171_4, q171_5, q171_6, q171_7, q171_55, q171_58, q171_62, q171_64, q171_67, q171_68, q171_71, q171_73, q171_76, q171_79 (st := []), q171_59, i10, eq_self, ft0, ft1, b01_ft, k1r, k1i, xG_some, xH_some, xC_v, xC_n, if_true, if_false, not_true_eq_false, not_false_eq_true, ix_st, ix_st2, List.getElem?_cons_succ, List.getElem?_cons_zero, List.set_cons_succ, List.set_cons_zero, Value.category, List.map_cons, List.map_nil, List.sum_cons, List.sum_nil, Nat.reduceAdd, Nat.reduceLeDiff, Nat.reduceEqDiff, Nat.zero_le, reduceCtorEq, ↓reduceIte, eq_self, xit, x1, x2, (eq_false (show ¬ (0 : Int32) = (-1) by decide)), isN, eN, e2, e3, e4, is1, is2, is3, is4, eT]
theorem m171_1 {a5 a7 : Nat} (hO : OK N xs b) (h98 : 98 ≤ b.length) (hr : b[a]? = some (.inl (0, 10, .inl R))) (hs : R 4 = 1) (R5 : R 5 = nI a5) (b5 : a5 < 130) (R7 : R 7 = nI a7) (b7 : a7 < 130) : ∃ h' q w, xe (ixP fv) (d + 8) 171 0 [some (.ref a), none] [] b = some (.inl (some (.ref q)), h') ∧ SS N xs b h' q w (sK 15 ++ dgt a7) ∧ h'.length ≤ b.length + 20 ∧ ix_sz h' ≤ ix_sz b + 40000 := by
  obtain ⟨h1, eN, g1, z1, y1⟩ := SN_new (fv := fv) (d := d + 6) hO h98
  have isN : ix_is (ixP fv) (b ++ [.inr (9, [defaultValue (.array .byte), defaultValue .byte, defaultValue .boolean, defaultValue .int])]) b.length "java/lang/StringBuilder" = true := is_of get_end (by decide +kernel)
  obtain ⟨h2, v2, e2, g2, z2, y2⟩ := SN_app (fv := fv) (d := d + 3) (k := 15) g1 (by decide) (by simp only [List.length_append, List.length_nil, lK15, lK15]; have := dgt_len (n := a7); omega)
  have e2 : xe (ixP fv) (d + 3 + 4) 157 0 [some (.ref b.length), some (.ref 31)] [] h1 = some (.inl (some (.ref b.length)), h2) := e2
  obtain ⟨h3, v3, e3, g3, z3, y3⟩ := SN_int (fv := fv) (d := d + 3) (m := a7) g2 (by omega) (by simp only [List.length_append, List.length_nil, lK15]; have := dgt_len (n := a7); omega)
  obtain ⟨h4, eT, gT, zT, yT⟩ := SN_str (fv := fv) (d := d + 2) g3 (by simp only [List.length_append, List.length_nil, lK15]; have := dgt_len (n := a7); omega)
  have is1 := SN_is (fv := fv) g1
  have is2 := SN_is (fv := fv) g2
  have is3 := SN_is (fv := fv) g3
  have r2 : rA h2 a 7 = some (.int (nI a7)) := (SN_r (k := 7) g2 hr (by decide)).trans (by rw [R7])
  have x1 : rA b a 5 = some (.int (nI a5)) := (rA_of (i := nI 5) hr (by decide)).trans (congrArg (fun z => some (Value.int z)) R5)
  have x2 : rA b a 4 = some (.int (1)) := (rA_of (i := nI 4) hr (by decide)).trans (congrArg (fun z => some (Value.int z)) hs)
  have c8 : (([] : List Value).map Value.category).sum ≤ 8 := by decide
  
  refine ⟨h4, h3.length, h3.length + 1, ?_, gT, by omega, by omega⟩
  simp only [q171_0, q171_1, q171_2, q171_3, q171_4, q171_5, q171_6, q171_7, q171_80, q171_83, q171_87, q171_89, q171_92, q171_93, q171_95, q171_96, q171_99, q171_102 (st := []), q171_84, i10, eq_self, ft0, ft1, b01_ft, k1r, k1i, xG_some, xH_some, xC_v, xC_n, if_true, if_false, not_true_eq_false, not_false_eq_true, ix_st, ix_st2, List.getElem?_cons_succ, List.getElem?_cons_zero, List.set_cons_succ, List.set_cons_zero, Value.category, List.map_cons, List.map_nil, List.sum_cons, List.sum_nil, Nat.reduceAdd, Nat.reduceLeDiff, Nat.reduceEqDiff, Nat.zero_le, reduceCtorEq, ↓reduceIte, eq_self, xit, x1, x2, (eq_false (show ¬ (1 : Int32) = (-1) by decide)), (eq_false (show ¬ (1 : Int32) = 0 by decide)), isN, eN, e2, e3, is1, is2, is3, r2, eT]
theorem m171_2 {a5 a7 : Nat} (hO : OK N xs b) (h98 : 98 ≤ b.length) (hr : b[a]? = some (.inl (0, 10, .inl R))) (hs : R 4 = 2) (R5 : R 5 = nI a5) (b5 : a5 < 130) (R7 : R 7 = nI a7) (b7 : a7 < 130) : ∃ h' q w, xe (ixP fv) (d + 8) 171 0 [some (.ref a), none] [] b = some (.inl (some (.ref q)), h') ∧ SS N xs b h' q w (sK 16 ++ dgt a7) ∧ h'.length ≤ b.length + 20 ∧ ix_sz h' ≤ ix_sz b + 40000 := by
  obtain ⟨h1, eN, g1, z1, y1⟩ := SN_new (fv := fv) (d := d + 6) hO h98
  have isN : ix_is (ixP fv) (b ++ [.inr (9, [defaultValue (.array .byte), defaultValue .byte, defaultValue .boolean, defaultValue .int])]) b.length "java/lang/StringBuilder" = true := is_of get_end (by decide +kernel)
  obtain ⟨h2, v2, e2, g2, z2, y2⟩ := SN_app (fv := fv) (d := d + 3) (k := 16) g1 (by decide) (by simp only [List.length_append, List.length_nil, lK16, lK16]; have := dgt_len (n := a7); omega)
  have e2 : xe (ixP fv) (d + 3 + 4) 157 0 [some (.ref b.length), some (.ref 33)] [] h1 = some (.inl (some (.ref b.length)), h2) := e2
  obtain ⟨h3, v3, e3, g3, z3, y3⟩ := SN_int (fv := fv) (d := d + 3) (m := a7) g2 (by omega) (by simp only [List.length_append, List.length_nil, lK16]; have := dgt_len (n := a7); omega)
  obtain ⟨h4, eT, gT, zT, yT⟩ := SN_str (fv := fv) (d := d + 2) g3 (by simp only [List.length_append, List.length_nil, lK16]; have := dgt_len (n := a7); omega)
  have is1 := SN_is (fv := fv) g1
  have is2 := SN_is (fv := fv) g2
  have is3 := SN_is (fv := fv) g3
  have r2 : rA h2 a 7 = some (.int (nI a7)) := (SN_r (k := 7) g2 hr (by decide)).trans (by rw [R7])
  have x1 : rA b a 5 = some (.int (nI a5)) := (rA_of (i := nI 5) hr (by decide)).trans (congrArg (fun z => some (Value.int z)) R5)
  have x2 : rA b a 4 = some (.int (2)) := (rA_of (i := nI 4) hr (by decide)).trans (congrArg (fun z => some (Value.int z)) hs)
  have c8 : (([] : List Value).map Value.category).sum ≤ 8 := by decide
  
  refine ⟨h4, h3.length, h3.length + 1, ?_, gT, by omega, by omega⟩
  simp only [q171_0, q171_1, q171_2, q171_3, q171_4, q171_5, q171_6, q171_7, q171_103, q171_106, q171_110, q171_112, q171_115, q171_116, q171_118, q171_119, q171_122, q171_125 (st := []), q171_107, i10, eq_self, ft0, ft1, b01_ft, k1r, k1i, xG_some, xH_some, xC_v, xC_n, if_true, if_false, not_true_eq_false, not_false_eq_true, ix_st, ix_st2, List.getElem?_cons_succ, List.getElem?_cons_zero, List.set_cons_succ, List.set_cons_zero, Value.category, List.map_cons, List.map_nil, List.sum_cons, List.sum_nil, Nat.reduceAdd, Nat.reduceLeDiff, Nat.reduceEqDiff, Nat.zero_le, reduceCtorEq, ↓reduceIte, eq_self, xit, x1, x2, (eq_false (show ¬ (2 : Int32) = (-1) by decide)), (eq_false (show ¬ (2 : Int32) = 0 by decide)), (eq_false (show ¬ (2 : Int32) = 1 by decide)), isN, eN, e2, e3, is1, is2, is3, r2, eT]
theorem m171_3 {a5 a6 : Nat} (hO : OK N xs b) (h98 : 98 ≤ b.length) (hr : b[a]? = some (.inl (0, 10, .inl R))) (hs : R 4 = 3) (R5 : R 5 = nI a5) (b5 : a5 < 130) (R6 : R 6 = nI a6) (b6 : a6 < 130) : ∃ h' q w, xe (ixP fv) (d + 8) 171 0 [some (.ref a), none] [] b = some (.inl (some (.ref q)), h') ∧ SS N xs b h' q w (sK 17 ++ dgt a6 ++ sK 18 ++ dgt a5) ∧ h'.length ≤ b.length + 20 ∧ ix_sz h' ≤ ix_sz b + 40000 := by
  obtain ⟨h1, eN, g1, z1, y1⟩ := SN_new (fv := fv) (d := d + 6) hO h98
  have isN : ix_is (ixP fv) (b ++ [.inr (9, [defaultValue (.array .byte), defaultValue .byte, defaultValue .boolean, defaultValue .int])]) b.length "java/lang/StringBuilder" = true := is_of get_end (by decide +kernel)
  obtain ⟨h2, v2, e2, g2, z2, y2⟩ := SN_app (fv := fv) (d := d + 3) (k := 17) g1 (by decide) (by simp only [List.length_append, List.length_nil, lK17, lK17, lK18]; have := dgt_len (n := a6); have := dgt_len (n := a5); omega)
  have e2 : xe (ixP fv) (d + 3 + 4) 157 0 [some (.ref b.length), some (.ref 35)] [] h1 = some (.inl (some (.ref b.length)), h2) := e2
  obtain ⟨h3, v3, e3, g3, z3, y3⟩ := SN_int (fv := fv) (d := d + 3) (m := a6) g2 (by omega) (by simp only [List.length_append, List.length_nil, lK17, lK18]; have := dgt_len (n := a6); have := dgt_len (n := a5); omega)
  obtain ⟨h4, v4, e4, g4, z4, y4⟩ := SN_app (fv := fv) (d := d + 3) (k := 18) g3 (by decide) (by simp only [List.length_append, List.length_nil, lK18, lK17, lK18]; have := dgt_len (n := a6); have := dgt_len (n := a5); omega)
  have e4 : xe (ixP fv) (d + 3 + 4) 157 0 [some (.ref b.length), some (.ref 37)] [] h3 = some (.inl (some (.ref b.length)), h4) := e4
  obtain ⟨h5, v5, e5, g5, z5, y5⟩ := SN_int (fv := fv) (d := d + 3) (m := a5) g4 (by omega) (by simp only [List.length_append, List.length_nil, lK17, lK18]; have := dgt_len (n := a6); have := dgt_len (n := a5); omega)
  obtain ⟨h6, eT, gT, zT, yT⟩ := SN_str (fv := fv) (d := d + 2) g5 (by simp only [List.length_append, List.length_nil, lK17, lK18]; have := dgt_len (n := a6); have := dgt_len (n := a5); omega)
  have is1 := SN_is (fv := fv) g1
  have is2 := SN_is (fv := fv) g2
  have is3 := SN_is (fv := fv) g3
  have is4 := SN_is (fv := fv) g4
  have is5 := SN_is (fv := fv) g5
  have r2 : rA h2 a 6 = some (.int (nI a6)) := (SN_r (k := 6) g2 hr (by decide)).trans (by rw [R6])
  have x1 : rA b a 5 = some (.int (nI a5)) := (rA_of (i := nI 5) hr (by decide)).trans (congrArg (fun z => some (Value.int z)) R5)
  have x2 : rA b a 4 = some (.int (3)) := (rA_of (i := nI 4) hr (by decide)).trans (congrArg (fun z => some (Value.int z)) hs)
  have c8 : (([] : List Value).map Value.category).sum ≤ 8 := by decide
  
  refine ⟨h6, h5.length, h5.length + 1, ?_, gT, by omega, by omega⟩
  simp only [q171_0, q171_1, q171_2, q171_3, q171_4, q171_5, q171_6, q171_7, q171_126, q171_129, q171_133, q171_135, q171_138, q171_139, q171_141, q171_142, q171_145, q171_147, q171_150, q171_151, q171_154, q171_157 (st := []), q171_130, i10, eq_self, ft0, ft1, b01_ft, k1r, k1i, xG_some, xH_some, xC_v, xC_n, if_true, if_false, not_true_eq_false, not_false_eq_true, ix_st, ix_st2, List.getElem?_cons_succ, List.getElem?_cons_zero, List.set_cons_succ, List.set_cons_zero, Value.category, List.map_cons, List.map_nil, List.sum_cons, List.sum_nil, Nat.reduceAdd, Nat.reduceLeDiff, Nat.reduceEqDiff, Nat.zero_le, reduceCtorEq, ↓reduceIte, eq_self, xit, x1, x2, (eq_false (show ¬ (3 : Int32) = (-1) by decide)), (eq_false (show ¬ (3 : Int32) = 0 by decide)), (eq_false (show ¬ (3 : Int32) = 1 by decide)), (eq_false (show ¬ (3 : Int32) = 2 by decide)), isN, eN, e2, e3, e4, e5, is1, is2, is3, is4, is5, r2, eT]
theorem m171_4 {a5 a6 a8 : Nat} (hO : OK N xs b) (h98 : 98 ≤ b.length) (hr : b[a]? = some (.inl (0, 10, .inl R))) (hs : R 4 = 4) (R5 : R 5 = nI a5) (b5 : a5 < 130) (R6 : R 6 = nI a6) (b6 : a6 < 130) (R8 : R 8 = nI a8) (b8 : a8 < 130) : ∃ h' q w, xe (ixP fv) (d + 8) 171 0 [some (.ref a), none] [] b = some (.inl (some (.ref q)), h') ∧ SS N xs b h' q w (sK 19 ++ dgt a8 ++ sK 20 ++ dgt a8 ++ sK 21 ++ dgt a6) ∧ h'.length ≤ b.length + 20 ∧ ix_sz h' ≤ ix_sz b + 40000 := by
  obtain ⟨h1, eN, g1, z1, y1⟩ := SN_new (fv := fv) (d := d + 6) hO h98
  have isN : ix_is (ixP fv) (b ++ [.inr (9, [defaultValue (.array .byte), defaultValue .byte, defaultValue .boolean, defaultValue .int])]) b.length "java/lang/StringBuilder" = true := is_of get_end (by decide +kernel)
  obtain ⟨h2, v2, e2, g2, z2, y2⟩ := SN_app (fv := fv) (d := d + 3) (k := 19) g1 (by decide) (by simp only [List.length_append, List.length_nil, lK19, lK19, lK20, lK21]; have := dgt_len (n := a8); have := dgt_len (n := a8); have := dgt_len (n := a6); omega)
  have e2 : xe (ixP fv) (d + 3 + 4) 157 0 [some (.ref b.length), some (.ref 39)] [] h1 = some (.inl (some (.ref b.length)), h2) := e2
  obtain ⟨h3, v3, e3, g3, z3, y3⟩ := SN_int (fv := fv) (d := d + 3) (m := a8) g2 (by omega) (by simp only [List.length_append, List.length_nil, lK19, lK20, lK21]; have := dgt_len (n := a8); have := dgt_len (n := a8); have := dgt_len (n := a6); omega)
  obtain ⟨h4, v4, e4, g4, z4, y4⟩ := SN_app (fv := fv) (d := d + 3) (k := 20) g3 (by decide) (by simp only [List.length_append, List.length_nil, lK20, lK19, lK20, lK21]; have := dgt_len (n := a8); have := dgt_len (n := a8); have := dgt_len (n := a6); omega)
  have e4 : xe (ixP fv) (d + 3 + 4) 157 0 [some (.ref b.length), some (.ref 41)] [] h3 = some (.inl (some (.ref b.length)), h4) := e4
  obtain ⟨h5, v5, e5, g5, z5, y5⟩ := SN_int (fv := fv) (d := d + 3) (m := a8) g4 (by omega) (by simp only [List.length_append, List.length_nil, lK19, lK20, lK21]; have := dgt_len (n := a8); have := dgt_len (n := a8); have := dgt_len (n := a6); omega)
  obtain ⟨h6, v6, e6, g6, z6, y6⟩ := SN_app (fv := fv) (d := d + 3) (k := 21) g5 (by decide) (by simp only [List.length_append, List.length_nil, lK21, lK19, lK20, lK21]; have := dgt_len (n := a8); have := dgt_len (n := a8); have := dgt_len (n := a6); omega)
  have e6 : xe (ixP fv) (d + 3 + 4) 157 0 [some (.ref b.length), some (.ref 43)] [] h5 = some (.inl (some (.ref b.length)), h6) := e6
  obtain ⟨h7, v7, e7, g7, z7, y7⟩ := SN_int (fv := fv) (d := d + 3) (m := a6) g6 (by omega) (by simp only [List.length_append, List.length_nil, lK19, lK20, lK21]; have := dgt_len (n := a8); have := dgt_len (n := a8); have := dgt_len (n := a6); omega)
  obtain ⟨h8, eT, gT, zT, yT⟩ := SN_str (fv := fv) (d := d + 2) g7 (by simp only [List.length_append, List.length_nil, lK19, lK20, lK21]; have := dgt_len (n := a8); have := dgt_len (n := a8); have := dgt_len (n := a6); omega)
  have is1 := SN_is (fv := fv) g1
  have is2 := SN_is (fv := fv) g2
  have is3 := SN_is (fv := fv) g3
  have is4 := SN_is (fv := fv) g4
  have is5 := SN_is (fv := fv) g5
  have is6 := SN_is (fv := fv) g6
  have is7 := SN_is (fv := fv) g7
  have r2 : rA h2 a 8 = some (.int (nI a8)) := (SN_r (k := 8) g2 hr (by decide)).trans (by rw [R8])
  have r4 : rA h4 a 8 = some (.int (nI a8)) := (SN_r (k := 8) g4 hr (by decide)).trans (by rw [R8])
  have r6 : rA h6 a 6 = some (.int (nI a6)) := (SN_r (k := 6) g6 hr (by decide)).trans (by rw [R6])
  have x1 : rA b a 5 = some (.int (nI a5)) := (rA_of (i := nI 5) hr (by decide)).trans (congrArg (fun z => some (Value.int z)) R5)
  have x2 : rA b a 4 = some (.int (4)) := (rA_of (i := nI 4) hr (by decide)).trans (congrArg (fun z => some (Value.int z)) hs)
  have c8 : (([] : List Value).map Value.category).sum ≤ 8 := by decide
  
  refine ⟨h8, h7.length, h7.length + 1, ?_, gT, by omega, by omega⟩
  simp only [q171_0, q171_1, q171_2, q171_3, q171_4, q171_5, q171_6, q171_7, q171_158, q171_161, q171_165, q171_167, q171_170, q171_171, q171_173, q171_174, q171_177, q171_179, q171_182, q171_183, q171_185, q171_186, q171_189, q171_191, q171_194, q171_195, q171_197, q171_198, q171_201, q171_204 (st := []), q171_162, i10, eq_self, ft0, ft1, b01_ft, k1r, k1i, xG_some, xH_some, xC_v, xC_n, if_true, if_false, not_true_eq_false, not_false_eq_true, ix_st, ix_st2, List.getElem?_cons_succ, List.getElem?_cons_zero, List.set_cons_succ, List.set_cons_zero, Value.category, List.map_cons, List.map_nil, List.sum_cons, List.sum_nil, Nat.reduceAdd, Nat.reduceLeDiff, Nat.reduceEqDiff, Nat.zero_le, reduceCtorEq, ↓reduceIte, eq_self, xit, x1, x2, (eq_false (show ¬ (4 : Int32) = (-1) by decide)), (eq_false (show ¬ (4 : Int32) = 0 by decide)), (eq_false (show ¬ (4 : Int32) = 1 by decide)), (eq_false (show ¬ (4 : Int32) = 2 by decide)), (eq_false (show ¬ (4 : Int32) = 3 by decide)), isN, eN, e2, e3, e4, e5, e6, e7, is1, is2, is3, is4, is5, is6, is7, r2, r4, r6, eT]
theorem m171_5 {a5 : Nat} (hO : OK N xs b) (h98 : 98 ≤ b.length) (hr : b[a]? = some (.inl (0, 10, .inl R))) (hs : R 4 = 5) (R5 : R 5 = nI a5) (b5 : a5 < 130) : ∃ h' q w, xe (ixP fv) (d + 8) 171 0 [some (.ref a), none] [] b = some (.inl (some (.ref q)), h') ∧ SS N xs b h' q w (sK 22 ++ dgt a5 ++ sK 23 ++ dgt a5) ∧ h'.length ≤ b.length + 20 ∧ ix_sz h' ≤ ix_sz b + 40000 := by
  obtain ⟨h1, eN, g1, z1, y1⟩ := SN_new (fv := fv) (d := d + 6) hO h98
  have isN : ix_is (ixP fv) (b ++ [.inr (9, [defaultValue (.array .byte), defaultValue .byte, defaultValue .boolean, defaultValue .int])]) b.length "java/lang/StringBuilder" = true := is_of get_end (by decide +kernel)
  obtain ⟨h2, v2, e2, g2, z2, y2⟩ := SN_app (fv := fv) (d := d + 3) (k := 22) g1 (by decide) (by simp only [List.length_append, List.length_nil, lK22, lK22, lK23]; have := dgt_len (n := a5); have := dgt_len (n := a5); omega)
  have e2 : xe (ixP fv) (d + 3 + 4) 157 0 [some (.ref b.length), some (.ref 45)] [] h1 = some (.inl (some (.ref b.length)), h2) := e2
  obtain ⟨h3, v3, e3, g3, z3, y3⟩ := SN_int (fv := fv) (d := d + 3) (m := a5) g2 (by omega) (by simp only [List.length_append, List.length_nil, lK22, lK23]; have := dgt_len (n := a5); have := dgt_len (n := a5); omega)
  obtain ⟨h4, v4, e4, g4, z4, y4⟩ := SN_app (fv := fv) (d := d + 3) (k := 23) g3 (by decide) (by simp only [List.length_append, List.length_nil, lK23, lK22, lK23]; have := dgt_len (n := a5); have := dgt_len (n := a5); omega)
  have e4 : xe (ixP fv) (d + 3 + 4) 157 0 [some (.ref b.length), some (.ref 47)] [] h3 = some (.inl (some (.ref b.length)), h4) := e4
  obtain ⟨h5, v5, e5, g5, z5, y5⟩ := SN_int (fv := fv) (d := d + 3) (m := a5) g4 (by omega) (by simp only [List.length_append, List.length_nil, lK22, lK23]; have := dgt_len (n := a5); have := dgt_len (n := a5); omega)
  obtain ⟨h6, eT, gT, zT, yT⟩ := SN_str (fv := fv) (d := d + 2) g5 (by simp only [List.length_append, List.length_nil, lK22, lK23]; have := dgt_len (n := a5); have := dgt_len (n := a5); omega)
  have is1 := SN_is (fv := fv) g1
  have is2 := SN_is (fv := fv) g2
  have is3 := SN_is (fv := fv) g3
  have is4 := SN_is (fv := fv) g4
  have is5 := SN_is (fv := fv) g5
  have x1 : rA b a 5 = some (.int (nI a5)) := (rA_of (i := nI 5) hr (by decide)).trans (congrArg (fun z => some (Value.int z)) R5)
  have x2 : rA b a 4 = some (.int (5)) := (rA_of (i := nI 4) hr (by decide)).trans (congrArg (fun z => some (Value.int z)) hs)
  have c8 : (([] : List Value).map Value.category).sum ≤ 8 := by decide
  
  refine ⟨h6, h5.length, h5.length + 1, ?_, gT, by omega, by omega⟩
  simp only [q171_0, q171_1, q171_2, q171_3, q171_4, q171_5, q171_6, q171_7, q171_205, q171_208, q171_212, q171_214, q171_217, q171_218, q171_221, q171_223, q171_226, q171_227, q171_230, q171_233 (st := []), q171_209, i10, eq_self, ft0, ft1, b01_ft, k1r, k1i, xG_some, xH_some, xC_v, xC_n, if_true, if_false, not_true_eq_false, not_false_eq_true, ix_st, ix_st2, List.getElem?_cons_succ, List.getElem?_cons_zero, List.set_cons_succ, List.set_cons_zero, Value.category, List.map_cons, List.map_nil, List.sum_cons, List.sum_nil, Nat.reduceAdd, Nat.reduceLeDiff, Nat.reduceEqDiff, Nat.zero_le, reduceCtorEq, ↓reduceIte, eq_self, xit, x1, x2, (eq_false (show ¬ (5 : Int32) = (-1) by decide)), (eq_false (show ¬ (5 : Int32) = 0 by decide)), (eq_false (show ¬ (5 : Int32) = 1 by decide)), (eq_false (show ¬ (5 : Int32) = 2 by decide)), (eq_false (show ¬ (5 : Int32) = 3 by decide)), (eq_false (show ¬ (5 : Int32) = 4 by decide)), isN, eN, e2, e3, e4, e5, is1, is2, is3, is4, is5, eT]
theorem m171_6 {a5 a6 a9 : Nat} (hO : OK N xs b) (h98 : 98 ≤ b.length) (hr : b[a]? = some (.inl (0, 10, .inl R))) (hs : R 4 = 6) (R5 : R 5 = nI a5) (b5 : a5 < 130) (R6 : R 6 = nI a6) (b6 : a6 < 130) (R9 : R 9 = nI a9) (b9 : a9 < 130) : ∃ h' q w, xe (ixP fv) (d + 8) 171 0 [some (.ref a), none] [] b = some (.inl (some (.ref q)), h') ∧ SS N xs b h' q w (sK 24 ++ dgt a6 ++ sK 25 ++ dgt a5 ++ sK 26 ++ dgt a9) ∧ h'.length ≤ b.length + 20 ∧ ix_sz h' ≤ ix_sz b + 40000 := by
  obtain ⟨h1, eN, g1, z1, y1⟩ := SN_new (fv := fv) (d := d + 6) hO h98
  have isN : ix_is (ixP fv) (b ++ [.inr (9, [defaultValue (.array .byte), defaultValue .byte, defaultValue .boolean, defaultValue .int])]) b.length "java/lang/StringBuilder" = true := is_of get_end (by decide +kernel)
  obtain ⟨h2, v2, e2, g2, z2, y2⟩ := SN_app (fv := fv) (d := d + 3) (k := 24) g1 (by decide) (by simp only [List.length_append, List.length_nil, lK24, lK24, lK25, lK26]; have := dgt_len (n := a6); have := dgt_len (n := a5); have := dgt_len (n := a9); omega)
  have e2 : xe (ixP fv) (d + 3 + 4) 157 0 [some (.ref b.length), some (.ref 49)] [] h1 = some (.inl (some (.ref b.length)), h2) := e2
  obtain ⟨h3, v3, e3, g3, z3, y3⟩ := SN_int (fv := fv) (d := d + 3) (m := a6) g2 (by omega) (by simp only [List.length_append, List.length_nil, lK24, lK25, lK26]; have := dgt_len (n := a6); have := dgt_len (n := a5); have := dgt_len (n := a9); omega)
  obtain ⟨h4, v4, e4, g4, z4, y4⟩ := SN_app (fv := fv) (d := d + 3) (k := 25) g3 (by decide) (by simp only [List.length_append, List.length_nil, lK25, lK24, lK25, lK26]; have := dgt_len (n := a6); have := dgt_len (n := a5); have := dgt_len (n := a9); omega)
  have e4 : xe (ixP fv) (d + 3 + 4) 157 0 [some (.ref b.length), some (.ref 51)] [] h3 = some (.inl (some (.ref b.length)), h4) := e4
  obtain ⟨h5, v5, e5, g5, z5, y5⟩ := SN_int (fv := fv) (d := d + 3) (m := a5) g4 (by omega) (by simp only [List.length_append, List.length_nil, lK24, lK25, lK26]; have := dgt_len (n := a6); have := dgt_len (n := a5); have := dgt_len (n := a9); omega)
  obtain ⟨h6, v6, e6, g6, z6, y6⟩ := SN_app (fv := fv) (d := d + 3) (k := 26) g5 (by decide) (by simp only [List.length_append, List.length_nil, lK26, lK24, lK25, lK26]; have := dgt_len (n := a6); have := dgt_len (n := a5); have := dgt_len (n := a9); omega)
  have e6 : xe (ixP fv) (d + 3 + 4) 157 0 [some (.ref b.length), some (.ref 53)] [] h5 = some (.inl (some (.ref b.length)), h6) := e6
  obtain ⟨h7, v7, e7, g7, z7, y7⟩ := SN_int (fv := fv) (d := d + 3) (m := a9) g6 (by omega) (by simp only [List.length_append, List.length_nil, lK24, lK25, lK26]; have := dgt_len (n := a6); have := dgt_len (n := a5); have := dgt_len (n := a9); omega)
  obtain ⟨h8, eT, gT, zT, yT⟩ := SN_str (fv := fv) (d := d + 2) g7 (by simp only [List.length_append, List.length_nil, lK24, lK25, lK26]; have := dgt_len (n := a6); have := dgt_len (n := a5); have := dgt_len (n := a9); omega)
  have is1 := SN_is (fv := fv) g1
  have is2 := SN_is (fv := fv) g2
  have is3 := SN_is (fv := fv) g3
  have is4 := SN_is (fv := fv) g4
  have is5 := SN_is (fv := fv) g5
  have is6 := SN_is (fv := fv) g6
  have is7 := SN_is (fv := fv) g7
  have r2 : rA h2 a 6 = some (.int (nI a6)) := (SN_r (k := 6) g2 hr (by decide)).trans (by rw [R6])
  have r6 : rA h6 a 9 = some (.int (nI a9)) := (SN_r (k := 9) g6 hr (by decide)).trans (by rw [R9])
  have x1 : rA b a 5 = some (.int (nI a5)) := (rA_of (i := nI 5) hr (by decide)).trans (congrArg (fun z => some (Value.int z)) R5)
  have x2 : rA b a 4 = some (.int (6)) := (rA_of (i := nI 4) hr (by decide)).trans (congrArg (fun z => some (Value.int z)) hs)
  have c8 : (([] : List Value).map Value.category).sum ≤ 8 := by decide
  
  refine ⟨h8, h7.length, h7.length + 1, ?_, gT, by omega, by omega⟩
  simp only [q171_0, q171_1, q171_2, q171_3, q171_4, q171_5, q171_6, q171_7, q171_234, q171_237, q171_241, q171_243, q171_246, q171_247, q171_249, q171_250, q171_253, q171_255, q171_258, q171_259, q171_262, q171_264, q171_267, q171_268, q171_270, q171_271, q171_274, q171_277 (st := []), q171_238, i10, eq_self, ft0, ft1, b01_ft, k1r, k1i, xG_some, xH_some, xC_v, xC_n, if_true, if_false, not_true_eq_false, not_false_eq_true, ix_st, ix_st2, List.getElem?_cons_succ, List.getElem?_cons_zero, List.set_cons_succ, List.set_cons_zero, Value.category, List.map_cons, List.map_nil, List.sum_cons, List.sum_nil, Nat.reduceAdd, Nat.reduceLeDiff, Nat.reduceEqDiff, Nat.zero_le, reduceCtorEq, ↓reduceIte, eq_self, xit, x1, x2, (eq_false (show ¬ (6 : Int32) = (-1) by decide)), (eq_false (show ¬ (6 : Int32) = 0 by decide)), (eq_false (show ¬ (6 : Int32) = 1 by decide)), (eq_false (show ¬ (6 : Int32) = 2 by decide)), (eq_false (show ¬ (6 : Int32) = 3 by decide)), (eq_false (show ¬ (6 : Int32) = 4 by decide)), (eq_false (show ¬ (6 : Int32) = 5 by decide)), isN, eN, e2, e3, e4, e5, e6, e7, is1, is2, is3, is4, is5, is6, is7, r2, r6, eT]
theorem m171_7 {a5 : Nat} (hO : OK N xs b) (h98 : 98 ≤ b.length) (hr : b[a]? = some (.inl (0, 10, .inl R))) (hs : R 4 = 7) (R5 : R 5 = nI a5) (b5 : a5 < 130) : ∃ h' q w, xe (ixP fv) (d + 8) 171 0 [some (.ref a), none] [] b = some (.inl (some (.ref q)), h') ∧ SS N xs b h' q w (sK 27 ++ dgt a5 ++ sK 28 ++ dgt a5) ∧ h'.length ≤ b.length + 20 ∧ ix_sz h' ≤ ix_sz b + 40000 := by
  obtain ⟨h1, eN, g1, z1, y1⟩ := SN_new (fv := fv) (d := d + 6) hO h98
  have isN : ix_is (ixP fv) (b ++ [.inr (9, [defaultValue (.array .byte), defaultValue .byte, defaultValue .boolean, defaultValue .int])]) b.length "java/lang/StringBuilder" = true := is_of get_end (by decide +kernel)
  obtain ⟨h2, v2, e2, g2, z2, y2⟩ := SN_app (fv := fv) (d := d + 3) (k := 27) g1 (by decide) (by simp only [List.length_append, List.length_nil, lK27, lK27, lK28]; have := dgt_len (n := a5); have := dgt_len (n := a5); omega)
  have e2 : xe (ixP fv) (d + 3 + 4) 157 0 [some (.ref b.length), some (.ref 55)] [] h1 = some (.inl (some (.ref b.length)), h2) := e2
  obtain ⟨h3, v3, e3, g3, z3, y3⟩ := SN_int (fv := fv) (d := d + 3) (m := a5) g2 (by omega) (by simp only [List.length_append, List.length_nil, lK27, lK28]; have := dgt_len (n := a5); have := dgt_len (n := a5); omega)
  obtain ⟨h4, v4, e4, g4, z4, y4⟩ := SN_app (fv := fv) (d := d + 3) (k := 28) g3 (by decide) (by simp only [List.length_append, List.length_nil, lK28, lK27, lK28]; have := dgt_len (n := a5); have := dgt_len (n := a5); omega)
  have e4 : xe (ixP fv) (d + 3 + 4) 157 0 [some (.ref b.length), some (.ref 57)] [] h3 = some (.inl (some (.ref b.length)), h4) := e4
  obtain ⟨h5, v5, e5, g5, z5, y5⟩ := SN_int (fv := fv) (d := d + 3) (m := a5) g4 (by omega) (by simp only [List.length_append, List.length_nil, lK27, lK28]; have := dgt_len (n := a5); have := dgt_len (n := a5); omega)
  obtain ⟨h6, eT, gT, zT, yT⟩ := SN_str (fv := fv) (d := d + 2) g5 (by simp only [List.length_append, List.length_nil, lK27, lK28]; have := dgt_len (n := a5); have := dgt_len (n := a5); omega)
  have is1 := SN_is (fv := fv) g1
  have is2 := SN_is (fv := fv) g2
  have is3 := SN_is (fv := fv) g3
  have is4 := SN_is (fv := fv) g4
  have is5 := SN_is (fv := fv) g5
  have x1 : rA b a 5 = some (.int (nI a5)) := (rA_of (i := nI 5) hr (by decide)).trans (congrArg (fun z => some (Value.int z)) R5)
  have x2 : rA b a 4 = some (.int (7)) := (rA_of (i := nI 4) hr (by decide)).trans (congrArg (fun z => some (Value.int z)) hs)
  have c8 : (([] : List Value).map Value.category).sum ≤ 8 := by decide
  
  refine ⟨h6, h5.length, h5.length + 1, ?_, gT, by omega, by omega⟩
  simp only [q171_0, q171_1, q171_2, q171_3, q171_4, q171_5, q171_6, q171_7, q171_278, q171_281, q171_285, q171_287, q171_290, q171_291, q171_294, q171_296, q171_299, q171_300, q171_303, q171_306 (st := []), q171_282, i10, eq_self, ft0, ft1, b01_ft, k1r, k1i, xG_some, xH_some, xC_v, xC_n, if_true, if_false, not_true_eq_false, not_false_eq_true, ix_st, ix_st2, List.getElem?_cons_succ, List.getElem?_cons_zero, List.set_cons_succ, List.set_cons_zero, Value.category, List.map_cons, List.map_nil, List.sum_cons, List.sum_nil, Nat.reduceAdd, Nat.reduceLeDiff, Nat.reduceEqDiff, Nat.zero_le, reduceCtorEq, ↓reduceIte, eq_self, xit, x1, x2, (eq_false (show ¬ (7 : Int32) = (-1) by decide)), (eq_false (show ¬ (7 : Int32) = 0 by decide)), (eq_false (show ¬ (7 : Int32) = 1 by decide)), (eq_false (show ¬ (7 : Int32) = 2 by decide)), (eq_false (show ¬ (7 : Int32) = 3 by decide)), (eq_false (show ¬ (7 : Int32) = 4 by decide)), (eq_false (show ¬ (7 : Int32) = 5 by decide)), (eq_false (show ¬ (7 : Int32) = 6 by decide)), isN, eN, e2, e3, e4, e5, is1, is2, is3, is4, is5, eT]
theorem SS_r {h' : ix_H} {q w : Nat} (g : SS N xs b h' q w l) : OK N xs h' ∧ b.length ≤ h'.length ∧ (∀ q, q < b.length → h'[q]? = b[q]?) := ⟨g.2.1, g.2.2.1, g.2.2.2.1⟩
/-- sum -/
theorem m170 {a2 a3 a6 a8 a9 : Nat} (hO : OK N xs b) (h98 : 98 ≤ b.length) (hr : b[a]? = some (.inl (0, 10, .inl R))) (R2 : R 2 = nI a2) (b2 : a2 < 6) (R3 : R 3 = nI a3) (b3 : a3 < 130) (R6 : R 6 = nI a6) (b6 : a6 < 130) (R8 : R 8 = nI a8) (b8 : a8 < 130) (R9 : R 9 = nI a9) (b9 : a9 < 130) : ∃ h' q w, xe (ixP fv) (d + 8) 170 0 [some (.ref a), none] [] b = some (.inl (some (.ref q)), h') ∧ SS N xs b h' q w (smT a2 a3 a6 a8 a9) ∧ h'.length ≤ b.length + 20 ∧ ix_sz h' ≤ ix_sz b + 40000 := by
  rcases a2 with _ | _ | _ | _ | _ | _ | a2
  · exact m170_0 hO h98 hr R2 R3 b3
  · exact m170_1 hO h98 hr R2 R3 b3 R6 b6 R8 b8
  · exact m170_2 hO h98 hr R2 R3 b3 R6 b6
  · exact m170_3 hO h98 hr R2 R3 b3 R9 b9
  · have x1 : rA b a 3 = some (.int (nI a3)) := (rA_of (i := nI 3) hr (by decide)).trans (congrArg (fun z => some (Value.int z)) R3)
    have x2 : rA b a 2 = some (.int 4) := (rA_of (i := nI 2) hr (by decide)).trans (congrArg (fun z => some (Value.int z)) R2)
    refine ⟨b, 23, 24, ?_, ⟨OK_str (k := 11) hO (by decide), hO, Nat.le_refl _, fun _ _ => rfl, Or.inl (by decide)⟩, by omega, by omega⟩
    simp only [q170_0, q170_1, q170_2, q170_3, q170_4, q170_5, q170_6, q170_7, q170_168, q170_170 (st := []), i10, eq_self, ft0, ft1, b01_ft, k1r, k1i, xG_some, xH_some, xC_v, xC_n, if_true, if_false, not_true_eq_false, not_false_eq_true, ix_st, ix_st2, List.getElem?_cons_succ, List.getElem?_cons_zero, List.set_cons_succ, List.set_cons_zero, Value.category, List.map_cons, List.map_nil, List.sum_cons, List.sum_nil, Nat.reduceAdd, Nat.reduceLeDiff, Nat.reduceEqDiff, Nat.zero_le, reduceCtorEq, ↓reduceIte, eq_self, xit, x1, x2, (eq_false (show ¬ (4 : Int32) = 0 by decide)), (eq_false (show ¬ (4 : Int32) = 1 by decide)), (eq_false (show ¬ (4 : Int32) = 2 by decide)), (eq_false (show ¬ (4 : Int32) = 3 by decide))]
  · exact m170_5 hO h98 hr R2 R3 b3 R6 b6
  · omega
/-- test -/
theorem m171 {a4 a5 a6 a7 a8 a9 : Nat} (hO : OK N xs b) (h98 : 98 ≤ b.length) (hr : b[a]? = some (.inl (0, 10, .inl R))) (R4 : R 4 = if a4 = 8 then -1 else nI a4) (b4 : a4 ≤ 8) (R5 : R 5 = nI a5) (b5 : a5 < 130) (R6 : R 6 = nI a6) (b6 : a6 < 130) (R7 : R 7 = nI a7) (b7 : a7 < 130) (R8 : R 8 = nI a8) (b8 : a8 < 130) (R9 : R 9 = nI a9) (b9 : a9 < 130) : ∃ h' q w, xe (ixP fv) (d + 8) 171 0 [some (.ref a), none] [] b = some (.inl (some (.ref q)), h') ∧ SS N xs b h' q w (teT a4 a5 a6 a7 a8 a9) ∧ h'.length ≤ b.length + 20 ∧ ix_sz h' ≤ ix_sz b + 40000 := by
  rcases a4 with _ | _ | _ | _ | _ | _ | _ | _ | _ | a4
  · exact m171_0 hO h98 hr R4 R5 b5
  · exact m171_1 hO h98 hr R4 R5 b5 R7 b7
  · exact m171_2 hO h98 hr R4 R5 b5 R7 b7
  · exact m171_3 hO h98 hr R4 R5 b5 R6 b6
  · exact m171_4 hO h98 hr R4 R5 b5 R6 b6 R8 b8
  · exact m171_5 hO h98 hr R4 R5 b5
  · exact m171_6 hO h98 hr R4 R5 b5 R6 b6 R9 b9
  · exact m171_7 hO h98 hr R4 R5 b5
  · have x1 : rA b a 5 = some (.int (nI a5)) := (rA_of (i := nI 5) hr (by decide)).trans (congrArg (fun z => some (Value.int z)) R5)
    have x2 : rA b a 4 = some (.int (-1)) := (rA_of (i := nI 4) hr (by decide)).trans (congrArg (fun z => some (Value.int z)) R4)
    refine ⟨b, 5, 6, ?_, ⟨OK_str (k := 2) hO (by decide), hO, Nat.le_refl _, fun _ _ => rfl, Or.inl (by decide)⟩, by omega, by omega⟩
    simp only [q171_0, q171_1, q171_2, q171_3, q171_4, q171_5, q171_6, q171_7, q171_52, q171_54 (st := []), i10, eq_self, ft0, ft1, b01_ft, k1r, k1i, xG_some, xH_some, xC_v, xC_n, if_true, if_false, not_true_eq_false, not_false_eq_true, ix_st, ix_st2, List.getElem?_cons_succ, List.getElem?_cons_zero, List.set_cons_succ, List.set_cons_zero, Value.category, List.map_cons, List.map_nil, List.sum_cons, List.sum_nil, Nat.reduceAdd, Nat.reduceLeDiff, Nat.reduceEqDiff, Nat.zero_le, reduceCtorEq, ↓reduceIte, eq_self, xit, x1, x2]
  · omega
theorem SN_ext {h' : ix_H} (g : SN N xs b h o v l) (hO : OK N xs h') (hl : h.length ≤ h'.length) (hx : ∀ q, q < h.length → h'[q]? = h[q]?) : SN N xs b h' o v l := ⟨isSB_ext g.1 hx, hO, Nat.le_trans g.2.2.1 hl, fun q hq => (hx q (Nat.lt_of_lt_of_le hq g.2.2.1)).trans (g.2.2.2.1 q hq), g.2.2.2.2⟩
theorem SN_v (g : SN N xs b h o v l) : v < h.length := by
  obtain ⟨cap, a, mb, e1, e2, -⟩ := g.1
  exact lt_of e2
theorem SN_apq {q w : Nat} {t : List Int32} (g : SN N xs b h o v l) (hq : isStr h q w t) (hw : w ≠ v) (hl : l.length + t.length ≤ 2000) : ∃ h' v', xe (ixP fv) (d + 4) 157 0 [some (.ref o), some (.ref q)] [] h = some (.inl (some (.ref o)), h') ∧ SN N xs b h' o v' (l ++ t) ∧ h'.length ≤ h.length + 1 ∧ ix_sz h' ≤ ix_sz h + 4002 := by
  obtain ⟨g1, g2, g3, g4, g5, g6, g7⟩ := g
  obtain ⟨h', v', e1, e2, e3, e4, e5, e6⟩ := m157 (fv := fv) (d := d) g1 hq hw (by omega)
  exact ⟨h', v', e1, ⟨e2, fun q hq => (e4.2 q (by omega) (by omega) (by omega)).trans (g2 q hq), Nat.le_trans g3 e4.1, fun q hq => (e4.2 q (by omega) (by omega) (by omega)).trans (g4 q hq), g5, by omega, g7⟩, e5, by omega⟩
theorem smT_len {a2 a3 a6 a8 a9 : Nat} : (smT a2 a3 a6 a8 a9).length ≤ 40 := by
  have := dgt_len (n := a3)
  have := dgt_len (n := a3 % 45)
  have := dgt_len (n := a6)
  have := dgt_len (n := a8)
  have := dgt_len (n := a9)
  unfold smT
  split
  · simp only [List.length_append, lK2]; omega
  split
  · simp only [List.length_append, lK3, lK4, lK5]; omega
  split
  · simp only [List.length_append, lK6, lK7, lK8]; omega
  split
  · simp only [List.length_append, lK9, lK10]; omega
  split
  · rw [lK11]; omega
  · simp only [List.length_append, lK12]; omega
theorem teT_len {a4 a5 a6 a7 a8 a9 : Nat} : (teT a4 a5 a6 a7 a8 a9).length ≤ 60 := by
  have := dgt_len (n := a5)
  have := dgt_len (n := a6)
  have := dgt_len (n := a7)
  have := dgt_len (n := a8)
  have := dgt_len (n := a9)
  unfold teT
  split
  · rw [lK2]; omega
  split
  · simp only [List.length_append, lK13, lK14]; omega
  split
  · simp only [List.length_append, lK15]; omega
  split
  · simp only [List.length_append, lK16]; omega
  split
  · simp only [List.length_append, lK17, lK18]; omega
  split
  · simp only [List.length_append, lK19, lK20, lK21]; omega
  split
  · simp only [List.length_append, lK22, lK23]; omega
  split
  · simp only [List.length_append, lK24, lK25, lK26]; omega
  · simp only [List.length_append, lK27, lK28]; omega
end ST6
