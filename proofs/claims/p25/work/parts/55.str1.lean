/-! STRINGS and their builder (written by gen55.py). -/
section STR
variable {fv : Value} {d : Nat} {h : ix_H} {o v w q cap m n k : Nat} {a b f : Nat → Int32} {mb hx hy : Value} {ys : List Value} {cnt x : Int32} {l t : List Int32}
theorem rF_o {c f : Nat} {fs : List Value} {ty : FieldType} {fin : Bool} {v : Value} (e : h[o]? = some (.inr (c, fs))) (hf : fs[f]? = some v) : rF (ixP fv) h o (c, f, ty, fin, none) = some v := by
  unfold rF ix_ob
  rw [e]
  exact (if_pos ⟨Or.inr rfl, rfl⟩).trans hf
theorem shl0 : x <<< ((0 : Int32) &&& 31) = x := by
  rw [show ((0 : Int32) &&& 31) = 0 by decide, Int32.shiftLeft_zero]
theorem shr0 : x >>> ((0 : Int32) &&& 31) = x := by
  rw [show ((0 : Int32) &&& 31) = 0 by decide, Int32.shiftRight_zero]
theorem fb0 : ix_ft .byte (.int 0) = true := by decide
theorem m153 (e : h[o]? = some (.inr (8, .ref w :: .int 0 :: ys))) : xe (ixP fv) d 153 0 [some (.ref o)] [] h = some (.inl (some (.int 0)), h) := by
  have e1 : ∀ ty fin, rF (ixP fv) h o (8, 1, ty, fin, none) = some (.int 0) := fun ty fin => rF_o e rfl
  simp only [q153_0, q153_3, q153_6, q153_7, q153_10, q153_13, q153_14 (st := []), i10, eq_self, ft0, ft1, b01_ft, k1r, k1i, xG_some, xH_some, xC_v, xC_n, if_true, if_false, not_true_eq_false, not_false_eq_true, ix_st, ix_st2, List.getElem?_cons_succ, List.getElem?_cons_zero, List.set_cons_succ, List.set_cons_zero, Value.category, List.map_cons, List.map_nil, List.sum_cons, List.sum_nil, Nat.reduceAdd, Nat.reduceLeDiff, Nat.reduceEqDiff, Nat.zero_le, reduceCtorEq, ↓reduceIte, eq_self, xit, e1, fb0, i10]
theorem m154 (e : h[o]? = some (.inr (8, .ref w :: .int 0 :: ys))) : xe (ixP fv) d 154 0 [some (.ref o)] [] h = some (.inl (some (.int 1)), h) := by
  have e1 : ∀ ty fin, rF (ixP fv) h o (8, 1, ty, fin, none) = some (.int 0) := fun ty fin => rF_o e rfl
  simp only [q154_0, q154_3, q154_6, q154_7, q154_10, q154_13, q154_14, q154_17, q154_18 (st := []), i10, eq_self, ft0, ft1, b01_ft, k1r, k1i, xG_some, xH_some, xC_v, xC_n, if_true, if_false, not_true_eq_false, not_false_eq_true, ix_st, ix_st2, List.getElem?_cons_succ, List.getElem?_cons_zero, List.set_cons_succ, List.set_cons_zero, Value.category, List.map_cons, List.map_nil, List.sum_cons, List.sum_nil, Nat.reduceAdd, Nat.reduceLeDiff, Nat.reduceEqDiff, Nat.zero_le, reduceCtorEq, ↓reduceIte, eq_self, xit, e1, i10]
theorem isSt (e : h[o]? = some (.inr (8, .ref w :: .int 0 :: ys))) : ix_is (ixP fv) h o "java/lang/String" = true := is_of e (by decide +kernel)
theorem isSb (e : h[o]? = some (.inr (9, [.ref v, .int 0, mb, .int cnt]))) : ix_is (ixP fv) h o "java/lang/StringBuilder" = true := is_of e (by decide +kernel)
theorem m149 (e : h[o]? = some (.inr (8, .ref w :: .int 0 :: ys))) (ew : h[w]? = some (.inl (2, n, .inl f))) : xe (ixP fv) (d + 1) 149 0 [some (.ref o)] [] h = some (.inl (some (.int (nI n))), h) := by
  have e1 : ∀ ty fin, rF (ixP fv) h o (8, 0, ty, fin, none) = some (.ref w) := fun ty fin => rF_o e rfl
  have e2 : rN (ixP fv) h w = some (.int (nI n)) := rN_of ew (by decide)
  simp only [q149_0, q149_1, q149_4, q149_5, q149_6, q149_9, q149_10 (st := []), i10, eq_self, ft0, ft1, b01_ft, k1r, k1i, xG_some, xH_some, xC_v, xC_n, if_true, if_false, not_true_eq_false, not_false_eq_true, ix_st, ix_st2, List.getElem?_cons_succ, List.getElem?_cons_zero, List.set_cons_succ, List.set_cons_zero, Value.category, List.map_cons, List.map_nil, List.sum_cons, List.sum_nil, Nat.reduceAdd, Nat.reduceLeDiff, Nat.reduceEqDiff, Nat.zero_le, reduceCtorEq, ↓reduceIte, eq_self, xit, e1, e2, isSt e, m153 e, shr0]
theorem wY_of {s dp : Nat} {sp n0 n1 c : Nat} {f g : Nat → Int32} (e : h[s]? = some (.inl (2, n0, .inl f))) (e' : h[dp]? = some (.inl (2, n1, .inl g))) (hd : 98 ≤ dp) (hn : s ≠ dp) {p : Nat} (h1 : sp + c ≤ n0) (h2 : p + c ≤ n1) (h0 : n0 ≤ 200000) (h3 : n1 ≤ 200000) : wY (ixP fv) h s (nI sp) dp (nI p) (nI c) = some (h.set dp (.inl (2, n1, .inl (va_cpy f g sp p c)))) := by
  unfold wY ix_ai
  simp only [e, e']
  rw [nI_clamp (by omega), nI_clamp (by omega), nI_clamp (by omega)]
  exact if_pos ⟨hd, hn, Or.inr (by trivial), by trivial, nI_pos (by omega), nI_pos (by omega), nI_pos (by omega), h1, h2⟩
theorem m151 (e : h[q]? = some (.inr (8, .ref w :: .int 0 :: ys))) (ew : h[w]? = some (.inl (2, n, .inl f))) (ev : h[v]? = some (.inl (2, cap, .inl a))) (hv : 98 ≤ v) (hne : w ≠ v) (hc : k + n ≤ cap) (hl : cap ≤ 200000) : xe (ixP fv) (d + 1) 151 0 [some (.ref q), some (.ref v), some (.int (nI k)), some (.int 0)] [] h = some (.inl none, h.set v (.inl (2, cap, .inl (va_cpy f a 0 k n)))) := by
  have e1 : ∀ ty fin, rF (ixP fv) h q (8, 0, ty, fin, none) = some (.ref w) := fun ty fin => rF_o e rfl
  have e2 : rN (ixP fv) h w = some (.int (nI n)) := rN_of ew (by decide)
  have e3 : wY (ixP fv) h w 0 v (nI k) (nI n) = _ := wY_of (sp := 0) ew ev hv hne (by omega) hc (by omega) hl
  simp only [q151_0, q151_1, q151_4, q151_5, q151_8, q151_9, q151_12, q151_13, q151_14, q151_15, q151_16, q151_17, q151_18, q151_21, q151_22, q151_25, q151_28, q151_29, q151_32, q151_33, q151_34, q151_35, q151_36, q151_39, q151_43 (st := []), i10, eq_self, ft0, ft1, b01_ft, k1r, k1i, xG_some, xH_some, xC_v, xC_n, if_true, if_false, not_true_eq_false, not_false_eq_true, ix_st, ix_st2, List.getElem?_cons_succ, List.getElem?_cons_zero, List.set_cons_succ, List.set_cons_zero, Value.category, List.map_cons, List.map_nil, List.sum_cons, List.sum_nil, Nat.reduceAdd, Nat.reduceLeDiff, Nat.reduceEqDiff, Nat.zero_le, reduceCtorEq, ↓reduceIte, eq_self, xit, e1, e2, isSt e, m153 e, shl0, e3]
theorem m145 (eo : h[o]? = some (.inr (9, [.ref v, .int 0, mb, .int cnt]))) (ho : 98 ≤ o) (e : h[q]? = some (.inr (8, .ref w :: .int 0 :: ys))) (ew : h[w]? = some (.inl (2, n, .inl f))) (ev : h[v]? = some (.inl (2, cap, .inl a))) (hv : 98 ≤ v) (hne : w ≠ v) (hc : k + n ≤ cap) (hl : cap ≤ 200000) : xe (ixP fv) (d + 2) 145 0 [some (.ref o), some (.int (nI k)), some (.ref q)] [] h = some (.inl none, h.set v (.inl (2, cap, .inl (va_cpy f a 0 k n)))) := by
  have e1 : ∀ ty fin X, rF (ixP fv) h o (9, 0, ty, fin, X) = some (.ref v) := fun ty fin X => rF_of eo ho rfl
  have e2 : ∀ ty fin X, rF (ixP fv) h o (9, 1, ty, fin, X) = some (.int 0) := fun ty fin X => rF_of eo ho rfl
  have e4 : xe (ixP fv) (d + 1) 144 0 [some (.ref o), some (.ref q)] [] h = some (.inl none, h) := by
    simp only [q144_0, q144_3, q144_6, q144_7, q144_10, q144_11, q144_14, q144_17, q144_21 (st := []), i10, eq_self, ft0, ft1, b01_ft, k1r, k1i, xG_some, xH_some, xC_v, xC_n, if_true, if_false, not_true_eq_false, not_false_eq_true, ix_st, ix_st2, List.getElem?_cons_succ, List.getElem?_cons_zero, List.set_cons_succ, List.set_cons_zero, Value.category, List.map_cons, List.map_nil, List.sum_cons, List.sum_nil, Nat.reduceAdd, Nat.reduceLeDiff, Nat.reduceEqDiff, Nat.zero_le, reduceCtorEq, ↓reduceIte, eq_self, xit, e2, isSt e, m153 e, i10]
  have e5 := fun d => m151 (fv := fv) (d := d) e ew ev hv hne hc hl
  simp only [q145_0, q145_1, q145_2, q145_5, q145_6, q145_7, q145_10, q145_11, q145_12, q145_15, q145_18 (st := []), i10, eq_self, ft0, ft1, b01_ft, k1r, k1i, xG_some, xH_some, xC_v, xC_n, if_true, if_false, not_true_eq_false, not_false_eq_true, ix_st, ix_st2, List.getElem?_cons_succ, List.getElem?_cons_zero, List.set_cons_succ, List.set_cons_zero, Value.category, List.map_cons, List.map_nil, List.sum_cons, List.sum_nil, Nat.reduceAdd, Nat.reduceLeDiff, Nat.reduceEqDiff, Nat.zero_le, reduceCtorEq, ↓reduceIte, eq_self, xit, e1, e2, e4, e5, isSb eo, isSt e]
theorem set_end {c c' : ix_C} : (h ++ [c]).set h.length c' = h ++ [c'] := by
  rw [List.set_append_right _ _ (Nat.le_refl _), Nat.sub_self]
  rfl
theorem big_nI (hc : n ≤ 50000000) : ix_big (nI n) = true := by
  unfold ix_big
  rw [nI_toInt (by omega)]
  simp
  omega
theorem get_old {c : ix_C} {k : Nat} {y : ix_C} (e : h[k]? = some y) : (h ++ [c])[k]? = some y := by
  rw [List.getElem?_append_left (List.getElem?_eq_some_iff.mp e).1]; exact e
theorem get_end {c : ix_C} : (h ++ [c])[h.length]? = some c := by
  rw [List.getElem?_append_right (Nat.le_refl _), Nat.sub_self]; rfl
theorem lt_of {k : Nat} {y : ix_C} (e : h[k]? = some y) : k < h.length := (List.getElem?_eq_some_iff.mp e).1
theorem m162 (ev : h[v]? = some (.inl (2, cap, .inl a))) (hne : n ≠ cap) (hl : cap ≤ 200000) (hn : n ≤ 200000) (h98 : 98 ≤ h.length) : xe (ixP fv) d 162 0 [some (.ref v), some (.int (nI n)), none] [] h = some (.inl (some (.ref h.length)), h ++ [.inl (2, n, .inl (va_cpy a (fun _ => 0) 0 0 (min cap n)))]) := by
  have e2 : rN (ixP fv) h v = some (.int (nI cap)) := rN_of ev (by decide)
  have c1 : ¬ nI n = nI cap := fun e => hne ((nI_eq (by omega) (by omega)).mp e)
  have e3 : rN (ixP fv) (h ++ [.inl (2, n, ix_z (newarray.typeOf .byte))]) v = some (.int (nI cap)) := rN_of (get_old ev) (by decide)
  have e4 : (if nI n < nI cap then nI n else nI cap) = nI (min cap n) := by
    by_cases q : n < cap
    · rw [if_pos (nI_lt q (by omega)), Nat.min_eq_right (by omega)]
    · rw [if_neg (nI_nlt (by omega) (by omega)), Nat.min_eq_left (by omega)]
  have e5 : wY (ixP fv) (h ++ [.inl (2, n, ix_z (newarray.typeOf .byte))]) v 0 h.length 0 (nI (min cap n)) = some (h ++ [.inl (2, n, .inl (va_cpy a (fun _ => 0) 0 0 (min cap n)))]) := by
    refine (wY_of (sp := 0) (p := 0) (get_old ev) (g := fun _ => 0) (n1 := n) get_end h98 (Nat.ne_of_lt (lt_of ev)) (by omega) (by omega) hl hn).trans (congrArg some set_end)
  simp only [q162_0, q162_1, q162_2, q162_3, q162_6, q162_7, q162_10, q162_13 (st := []), q162_14, q162_15, q162_17, q162_18, q162_19, q162_20, q162_21, q162_22, q162_23, q162_24, q162_25, q162_28, q162_31, q162_32 (st := []), i10, eq_self, ft0, ft1, b01_ft, k1r, k1i, xG_some, xH_some, xC_v, xC_n, if_true, if_false, not_true_eq_false, not_false_eq_true, ix_st, ix_st2, List.getElem?_cons_succ, List.getElem?_cons_zero, List.set_cons_succ, List.set_cons_zero, Value.category, List.map_cons, List.map_nil, List.sum_cons, List.sum_nil, Nat.reduceAdd, Nat.reduceLeDiff, Nat.reduceEqDiff, Nat.zero_le, reduceCtorEq, ↓reduceIte, eq_self, xit, e2, c1, big_nI (show n ≤ 50000000 by omega), nI_clamp (show n < 2 ^ 31 by omega), e3, e4, e5]
theorem m165 {x y : Nat} (hx : cap + max x y ≤ 400000) : xe (ixP fv) d 165 0 [some (.int (nI cap)), some (.int (nI x)), some (.int (nI y)), none] [] h = some (.inl (some (.int (nI (cap + max x y)))), h) ∨ cap + max x y = 0 := by
  by_cases h0 : cap + max x y = 0
  · exact Or.inr h0
  refine Or.inl ?_
  have e1 : (if nI x < nI y then nI y else nI x) = nI (max x y) := by
    by_cases q : x < y
    · rw [if_pos (nI_lt q (by omega)), Nat.max_eq_right (by omega)]
    · rw [if_neg (nI_nlt (by omega) (by omega)), Nat.max_eq_left (by omega)]
  have c1 : ¬ nI (cap + max x y) ≤ 0 := nI_nle (by omega) (by omega)
  have c2 : ¬ 2147483639 < nI (cap + max x y) := nI_nlt (a := 2147483639) (by omega) (by decide)
  simp only [q165_0, q165_1, q165_2, q165_3, q165_6, q165_7, q165_8, q165_9, q165_10, q165_13, q165_14, q165_16, q165_19, q165_20 (st := []), q165_21, q165_22, q165_26 (st := []), i10, eq_self, ft0, ft1, b01_ft, k1r, k1i, xG_some, xH_some, xC_v, xC_n, if_true, if_false, not_true_eq_false, not_false_eq_true, ix_st, ix_st2, List.getElem?_cons_succ, List.getElem?_cons_zero, List.set_cons_succ, List.set_cons_zero, Value.category, List.map_cons, List.map_nil, List.sum_cons, List.sum_nil, Nat.reduceAdd, Nat.reduceLeDiff, Nat.reduceEqDiff, Nat.zero_le, reduceCtorEq, ↓reduceIte, eq_self, xit, e1, nI_add, c1, c2]
theorem m139 (eo : h[o]? = some (.inr (9, [.ref v, .int 0, mb, .int cnt]))) (ho : 98 ≤ o) (ev : h[v]? = some (.inl (2, cap, .inl a))) (hm : cap < m) (hl : m ≤ 100000) : xe (ixP fv) (d + 1) 139 0 [some (.ref o), some (.int (nI m)), none, none, none, none] [] h = some (.inl (some (.int (nI (cap + max (m - cap) (cap + 2))))), h) := by
  have e1 : ∀ ty fin X, rF (ixP fv) h o (9, 0, ty, fin, X) = some (.ref v) := fun ty fin X => rF_of eo ho rfl
  have e2 : ∀ ty fin X, rF (ixP fv) h o (9, 1, ty, fin, X) = some (.int 0) := fun ty fin X => rF_of eo ho rfl
  have e3 : rN (ixP fv) h v = some (.int (nI cap)) := rN_of ev (by decide)
  have e4 := fun d => (m165 (fv := fv) (d := d) (h := h) (cap := cap) (x := m - cap) (y := cap + 2) (by omega)).resolve_right (by omega)
  have e5 : (2 : Int32) = nI 2 := rfl
  have c1 : ¬ nI (cap + max (m - cap) (cap + 2)) = 2147483647 := fun e => by
    have := (nI_eq (a := cap + max (m - cap) (cap + 2)) (b := 2147483647) (by omega) (by decide)).mp e
    omega
  have e6 : nI cap + 2 = nI (cap + 2) := nI_add cap 2
  simp only [q139_0, q139_1, q139_4, q139_5, q139_6, q139_7, q139_8, q139_11, q139_12, q139_13, q139_14, q139_15, q139_16, q139_18, q139_19, q139_21, q139_22, q139_23, q139_24, q139_27, q139_28, q139_29, q139_32, q139_34, q139_36, q139_38, q139_44, q139_51, q139_53, q139_54, q139_57, q139_58 (st := []), i10, eq_self, ft0, ft1, b01_ft, k1r, k1i, xG_some, xH_some, xC_v, xC_n, if_true, if_false, not_true_eq_false, not_false_eq_true, ix_st, ix_st2, List.getElem?_cons_succ, List.getElem?_cons_zero, List.set_cons_succ, List.set_cons_zero, Value.category, List.map_cons, List.map_nil, List.sum_cons, List.sum_nil, Nat.reduceAdd, Nat.reduceLeDiff, Nat.reduceEqDiff, Nat.zero_le, reduceCtorEq, ↓reduceIte, eq_self, xit, e1, e2, e3, shl0, shr0, pk_sub (show cap ≤ m by omega), e6, e4, c1]
/-- what stays -/
def frm (h h' : ix_H) (o v : Nat) : Prop := h.length ≤ h'.length ∧ ∀ k, k < h.length → k ≠ o → k ≠ v → h'[k]? = h[k]?
theorem m138 (eo : h[o]? = some (.inr (9, [.ref v, .int 0, mb, .int cnt]))) (ho : 98 ≤ o) (ev : h[v]? = some (.inl (2, cap, .inl a))) (hm : m ≤ 100000) (hc : cap ≤ 100000) : ∃ h' v' cap' a', xe (ixP fv) (d + 2) 138 0 [some (.ref o), some (.int (nI m)), none] [] h = some (.inl none, h') ∧ h'[o]? = some (.inr (9, [.ref v', .int 0, mb, .int cnt])) ∧ h'[v']? = some (.inl (2, cap', .inl a')) ∧ m ≤ cap' ∧ cap' ≤ max cap (2 * m + 2) ∧ (∀ j, j < cap → a' j = a j) ∧ ((v' = v) ∨ (v' = h.length)) ∧ (∀ k, k < h.length → k ≠ o → h'[k]? = h[k]?) ∧ h.length ≤ h'.length ∧ h'.length ≤ h.length + 1 ∧ ix_sz h' ≤ ix_sz h + (2 * m + 2) := by
  have e1 : ∀ h', h'[o]? = some (.inr (9, [.ref v, .int 0, mb, .int cnt])) → ∀ ty fin X, rF (ixP fv) h' o (9, 0, ty, fin, X) = some (.ref v) := fun h' eo ty fin X => rF_of eo ho rfl
  have e2 : ∀ h', h'[o]? = some (.inr (9, [.ref v, .int 0, mb, .int cnt])) → ∀ ty fin X, rF (ixP fv) h' o (9, 1, ty, fin, X) = some (.int 0) := fun h' eo ty fin X => rF_of eo ho rfl
  have e3 : rN (ixP fv) h v = some (.int (nI cap)) := rN_of ev (by decide)
  by_cases c : m ≤ cap
  · refine ⟨h, v, cap, a, ?_, eo, ev, c, Nat.le_max_left _ _, fun _ _ => rfl, Or.inl rfl, fun _ _ _ => rfl, Nat.le_refl _, Nat.le_succ _, Nat.le_add_right _ _⟩
    have c1 : nI m - nI cap ≤ 0 := by
      rw [Int32.le_iff_toInt_le, pk_sub_toInt (by omega) (by omega)]
      show (m : Int) - cap ≤ 0
      omega
    simp only [q138_0, q138_1, q138_4, q138_5, q138_6, q138_9, q138_10, q138_11, q138_12, q138_13, q138_14, q138_17, q138_18, q138_19, q138_22, q138_23, q138_24, q138_27, q138_28, q138_31, q138_32, q138_35, q138_38 (st := []), i10, eq_self, ft0, ft1, b01_ft, k1r, k1i, xG_some, xH_some, xC_v, xC_n, if_true, if_false, not_true_eq_false, not_false_eq_true, ix_st, ix_st2, List.getElem?_cons_succ, List.getElem?_cons_zero, List.set_cons_succ, List.set_cons_zero, Value.category, List.map_cons, List.map_nil, List.sum_cons, List.sum_nil, Nat.reduceAdd, Nat.reduceLeDiff, Nat.reduceEqDiff, Nat.zero_le, reduceCtorEq, ↓reduceIte, eq_self, xit, e1 h eo, e2 h eo, e3, shr0, c1]
  · have c1 : ¬ nI m - nI cap ≤ 0 := by
      rw [Int32.le_iff_toInt_le, pk_sub_toInt (by omega) (by omega)]
      show ¬ (m : Int) - cap ≤ 0
      omega
    have hlo := lt_of eo
    have e4 := fun d => m139 (fv := fv) (d := d) eo ho ev (show cap < m by omega) hm
    have e5 := fun d => m162 (fv := fv) (d := d) (n := cap + max (m - cap) (cap + 2)) ev (by omega) (by omega) (by omega) (by omega)
    refine ⟨(h ++ ([.inl (2, (cap + max (m - cap) (cap + 2)), .inl (va_cpy a (fun _ => 0) 0 0 (min cap (cap + max (m - cap) (cap + 2)))))] : ix_H)).set o (.inr (9, [.ref h.length, .int 0, mb, .int cnt])), h.length, cap + max (m - cap) (cap + 2), va_cpy a (fun _ => 0) 0 0 (min cap (cap + max (m - cap) (cap + 2))), ?_, ?_, ?_, by omega, by omega, ?_, Or.inr rfl, ?_, ?_, ?_, ?_⟩
    · have e6 : ∀ ty ini X, (ix_ft ty (.ref h.length) = true) → wF (ixP fv) (h ++ ([.inl (2, (cap + max (m - cap) (cap + 2)), .inl (va_cpy a (fun _ => 0) 0 0 (min cap (cap + max (m - cap) (cap + 2)))))] : ix_H)) o (9, 0, ty, false, X) ini (.ref h.length) = some ((h ++ ([.inl (2, (cap + max (m - cap) (cap + 2)), .inl (va_cpy a (fun _ => 0) 0 0 (min cap (cap + max (m - cap) (cap + 2)))))] : ix_H)).set o (.inr (9, [.ref h.length, .int 0, mb, .int cnt]))) := fun ty ini X ht => wF_of (get_old eo) ho (by show 0 < 4; decide) ht (Or.inl rfl)
      have e7 := e6 (.array .byte) false none rfl
      simp only [q138_0, q138_1, q138_4, q138_5, q138_6, q138_9, q138_10, q138_11, q138_12, q138_13, q138_14, q138_17, q138_18, q138_19, q138_22, q138_23, q138_24, q138_27, q138_28, q138_31, q138_32, q138_35, q138_38 (st := []), i10, eq_self, ft0, ft1, b01_ft, k1r, k1i, xG_some, xH_some, xC_v, xC_n, if_true, if_false, not_true_eq_false, not_false_eq_true, ix_st, ix_st2, List.getElem?_cons_succ, List.getElem?_cons_zero, List.set_cons_succ, List.set_cons_zero, Value.category, List.map_cons, List.map_nil, List.sum_cons, List.sum_nil, Nat.reduceAdd, Nat.reduceLeDiff, Nat.reduceEqDiff, Nat.zero_le, reduceCtorEq, ↓reduceIte, eq_self, xit, e1 h eo, e2 h eo, e3, shr0, shl0, c1, isSb eo, e4, e5, e7]
    · rw [List.getElem?_set, if_pos rfl, if_pos (by rw [List.length_append]; omega)]
    · rw [List.getElem?_set, if_neg (by omega)]
      exact get_end
    · intro j hj
      unfold va_cpy
      rw [if_pos (by omega), Nat.zero_add, Nat.sub_zero]
    · intro k hk hko
      rw [List.getElem?_set, if_neg (fun e => hko e.symm), List.getElem?_append_left hk]
    · rw [List.length_set, List.length_append]; omega
    · rw [List.length_set, List.length_append]; simp
    · rw [ix_sz_set _ o (.inr (9, [.ref v, .int 0, mb, .int cnt])) (.inr (9, [.ref h.length, .int 0, mb, .int cnt])) (get_old eo) rfl, ix_sz_push]
      show ix_sz h + (cap + max (m - cap) (cap + 2)) ≤ _
      omega
def bsl (a : Nat → Int32) (l : List Int32) : Prop := ∀ j, j < l.length → l[j]? = some (a j)
def isSB (h : ix_H) (o v : Nat) (l : List Int32) : Prop := ∃ cap a mb, h[o]? = some (.inr (9, [.ref v, .int 0, mb, .int (nI l.length)])) ∧ h[v]? = some (.inl (2, cap, .inl a)) ∧ l.length ≤ cap ∧ cap ≤ 100000 ∧ bsl a l ∧ 98 ≤ o ∧ 98 ≤ v
def isStr (h : ix_H) (o w : Nat) (l : List Int32) : Prop := ∃ a ys, h[o]? = some (.inr (8, .ref w :: .int 0 :: ys)) ∧ h[w]? = some (.inl (2, l.length, .inl a)) ∧ bsl a l
theorem bsl_app {f : Nat → Int32} (h1 : bsl a l) (h2 : bsl f t) : bsl (va_cpy f a 0 l.length t.length) (l ++ t) := by
  intro j hj
  rw [List.length_append] at hj
  unfold va_cpy
  by_cases q : j < l.length
  · rw [if_neg (by omega), List.getElem?_append_left q]
    exact h1 j q
  · rw [if_pos (by omega), List.getElem?_append_right (by omega), Nat.zero_add]
    exact h2 _ (by omega)
theorem bsl_of {a' : Nat → Int32} (h1 : bsl a l) (h2 : ∀ j, j < l.length → a' j = a j) : bsl a' l := fun j hj => by rw [h1 j hj, h2 j hj]
theorem m140 (hs : isSB h o v l) (hq : isStr h q w t) (hw : w ≠ v) (hl : l.length + t.length ≤ 40000) : ∃ h' v', xe (ixP fv) (d + 3) 140 0 [some (.ref o), some (.ref q), none] [] h = some (.inl (some (.ref o)), h') ∧ isSB h' o v' (l ++ t) ∧ ((v' = v) ∨ (v' = h.length)) ∧ frm h h' o v ∧ h'.length ≤ h.length + 1 ∧ ix_sz h' ≤ ix_sz h + (2 * (l.length + t.length) + 2) := by
  obtain ⟨cap, a, mb, eo, ev, h1, h2, h3, ho, hv⟩ := hs
  obtain ⟨f, ys, eq, ew, h4⟩ := hq
  obtain ⟨g, v', cap', a', er, go, gv, g1, g2, g3, g4, g5, g6, g7, g8⟩ := m138 (fv := fv) (d := d) eo ho ev (show l.length + t.length ≤ 100000 by omega) h2
  have hlv := lt_of ev
  have hlw := lt_of ew
  have hlq := lt_of eq
  have nqo : q ≠ o := fun e => by rw [e, eo] at eq; cases eq
  have nwo : w ≠ o := fun e => by rw [e, eo] at ew; cases ew
  have nvo : v ≠ o := fun e => by rw [e, eo] at ev; cases ev
  have gq : g[q]? = _ := (g5 q hlq nqo).trans eq
  have gw : g[w]? = _ := (g5 w hlw nwo).trans ew
  have nwv : w ≠ v' := g4.elim (fun e => by rw [e]; exact hw) (fun e => by rw [e]; omega)
  have hv' : 98 ≤ v' := g4.elim (fun e => by rw [e]; exact hv) (fun e => by rw [e]; exact Nat.le_trans hv (Nat.le_of_lt hlv))
  have nvo' : v' ≠ o := fun e => by rw [e, go] at gv; cases gv
  have hlo := lt_of go
  have er2 := fun d => m145 (fv := fv) (d := d) go ho gq gw gv hv' nwv (k := l.length) (by omega) (by omega)
  have go2 : (g.set v' (.inl (2, cap', .inl (va_cpy f a' 0 l.length t.length))))[o]? = _ := (List.getElem?_set_ne nvo').trans go
  refine ⟨(g.set v' (.inl (2, cap', .inl (va_cpy f a' 0 l.length t.length)))).set o (.inr (9, [.ref v', .int 0, mb, .int (nI (l ++ t).length)])), v', ?_, ⟨cap', va_cpy f a' 0 l.length t.length, mb, ?_, ?_, ?_, by omega, bsl_app (bsl_of h3 (fun j hj => g3 j (by omega))) h4, ho, hv'⟩, g4, ⟨?_, ?_⟩, ?_, ?_⟩
  · have e1 : ∀ ty fin X, rF (ixP fv) h o (9, 3, ty, fin, X) = some (.int (nI l.length)) := fun ty fin X => rF_of eo ho rfl
    have e2 : ∀ ty fin X, rF (ixP fv) g o (9, 3, ty, fin, X) = some (.int (nI l.length)) := fun ty fin X => rF_of go ho rfl
    have e3 : ∀ ty fin X, rF (ixP fv) (g.set v' (.inl (2, cap', .inl (va_cpy f a' 0 l.length t.length)))) o (9, 3, ty, fin, X) = some (.int (nI l.length)) := fun ty fin X => rF_of go2 ho rfl
    have e4 : ∀ ini X, wF (ixP fv) (g.set v' (.inl (2, cap', .inl (va_cpy f a' 0 l.length t.length)))) o (9, 3, .int, false, X) ini (.int (nI (l.length + t.length))) = some _ := fun ini X => wF_of go2 ho (by show 3 < 4; decide) rfl (Or.inl rfl)
    simp only [q140_0, q140_1, q140_4, q140_8 (st := []), q140_9, q140_10, q140_13, q140_14, q140_15, q140_16, q140_19, q140_20, q140_21, q140_24, q140_25, q140_26, q140_29, q140_30, q140_33, q140_34, q140_35, q140_38, q140_39, q140_40, q140_43, q140_44 (st := []), i10, eq_self, ft0, ft1, b01_ft, k1r, k1i, xG_some, xH_some, xC_v, xC_n, if_true, if_false, not_true_eq_false, not_false_eq_true, ix_st, ix_st2, List.getElem?_cons_succ, List.getElem?_cons_zero, List.set_cons_succ, List.set_cons_zero, Value.category, List.map_cons, List.map_nil, List.sum_cons, List.sum_nil, Nat.reduceAdd, Nat.reduceLeDiff, Nat.reduceEqDiff, Nat.zero_le, reduceCtorEq, ↓reduceIte, eq_self, xit, k1r, isSt eq, isSb eo, isSb go, m149 eq ew, e1, nI_add, er, e2, er2, e3, e4]
    rw [List.length_append]
  · rw [List.getElem?_set, if_pos rfl, if_pos (by rw [List.length_set]; exact hlo)]
  · rw [List.getElem?_set_ne (fun e => nvo' e.symm), List.getElem?_set, if_pos rfl, if_pos (lt_of gv)]
  · rw [List.length_append]; exact g1
  · rw [List.length_set, List.length_set]; exact g6
  · intro k hk ko kv
    rw [List.getElem?_set_ne (fun e => ko e.symm), List.getElem?_set_ne, g5 k hk ko]
    rcases g4 with rfl | rfl
    · exact fun e => kv e.symm
    · omega
  · rw [List.length_set, List.length_set]; exact g7
  · have z1 := ix_sz_set (g.set v' (.inl (2, cap', .inl (va_cpy f a' 0 l.length t.length)))) o _ (.inr (9, [.ref v', .int 0, mb, .int (nI (l ++ t).length)])) go2 rfl
    have z2 := ix_sz_set g v' _ (.inl (2, cap', .inl (va_cpy f a' 0 l.length t.length))) gv rfl
    rw [z1, z2]; exact g8
theorem m157 (hs : isSB h o v l) (hq : isStr h q w t) (hw : w ≠ v) (hl : l.length + t.length ≤ 40000) : ∃ h' v', xe (ixP fv) (d + 4) 157 0 [some (.ref o), some (.ref q)] [] h = some (.inl (some (.ref o)), h') ∧ isSB h' o v' (l ++ t) ∧ ((v' = v) ∨ (v' = h.length)) ∧ frm h h' o v ∧ h'.length ≤ h.length + 1 ∧ ix_sz h' ≤ ix_sz h + (2 * (l.length + t.length) + 2) := by
  obtain ⟨h', v', e, r⟩ := m140 (fv := fv) (d := d) hs hq hw hl
  obtain ⟨cap, a, mb, eo, -⟩ := hs
  refine ⟨h', v', ?_, r⟩
  simp only [q157_0, q157_1, q157_2, q157_5, q157_6, q157_7 (st := []), i10, eq_self, ft0, ft1, b01_ft, k1r, k1i, xG_some, xH_some, xC_v, xC_n, if_true, if_false, not_true_eq_false, not_false_eq_true, ix_st, ix_st2, List.getElem?_cons_succ, List.getElem?_cons_zero, List.set_cons_succ, List.set_cons_zero, Value.category, List.map_cons, List.map_nil, List.sum_cons, List.sum_nil, Nat.reduceAdd, Nat.reduceLeDiff, Nat.reduceEqDiff, Nat.zero_le, reduceCtorEq, ↓reduceIte, eq_self, xit, k1r, isSb eo, e]
end STR
