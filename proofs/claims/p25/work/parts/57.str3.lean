/-! STRINGS: a new builder, its string, chars (written by gen57.py). -/
section STR3
variable {fv : Value} {d : Nat} {h : ix_H} {o v w q cap m n k e : Nat} {a b f : Nat → Int32} {mb hx hy x0 x1 x3 : Value} {ys : List Value} {cnt x : Int32} {l t : List Int32}
theorem m136 (eo : h[o]? = some (.inr (9, [x0, x1, mb, x3]))) (ho : 98 ≤ o) (hn : n ≤ 50000000) : xe (ixP fv) d 136 0 [some (.ref o), some (.int (nI n))] [] h = some (.inl none, (h ++ ([.inl (2, n, ix_z (newarray.typeOf .byte))] : ix_H)).set o (.inr (9, [.ref h.length, .int 0, mb, x3]))) := by
  have hlo := lt_of eo
  have e1 : ∀ X, wF (ixP fv) (h ++ ([.inl (2, n, ix_z (newarray.typeOf .byte))] : ix_H)) o (9, 0, (.array .byte), false, X) true (.ref h.length) = some ((h ++ ([.inl (2, n, ix_z (newarray.typeOf .byte))] : ix_H)).set o (.inr (9, [.ref h.length, x1, mb, x3]))) := fun X => wF_of (get_old eo) ho (by show 0 < 4; decide) rfl (Or.inl rfl)
  have e2 : ∀ X, wF (ixP fv) ((h ++ ([.inl (2, n, ix_z (newarray.typeOf .byte))] : ix_H)).set o (.inr (9, [.ref h.length, x1, mb, x3]))) o (9, 1, .byte, false, X) true (.int 0) = some (((h ++ ([.inl (2, n, ix_z (newarray.typeOf .byte))] : ix_H)).set o (.inr (9, [.ref h.length, x1, mb, x3]))).set o (.inr (9, [.ref h.length, .int 0, mb, x3]))) := fun X => wF_of (get_set (get_old eo)) ho (by show 1 < 4; decide) fb0 (Or.inl rfl)
  simp only [q136_0, q136_1, q136_4, q136_7, q136_10, q136_11, q136_12, q136_14, q136_17, q136_18, q136_19, q136_22, q136_25, q136_26, q136_30, q136_33, q136_34, q136_35, q136_38 (st := []), i10, eq_self, ft0, ft1, b01_ft, k1r, k1i, xG_some, xH_some, xC_v, xC_n, if_true, if_false, not_true_eq_false, not_false_eq_true, ix_st, ix_st2, List.getElem?_cons_succ, List.getElem?_cons_zero, List.set_cons_succ, List.set_cons_zero, Value.category, List.map_cons, List.map_nil, List.sum_cons, List.sum_nil, Nat.reduceAdd, Nat.reduceLeDiff, Nat.reduceEqDiff, Nat.zero_le, reduceCtorEq, ↓reduceIte, eq_self, xit, big_nI hn, nI_clamp (show n < 2 ^ 31 by omega), e1, e2, set_set]
theorem m156 (eo : h[o]? = some (.inr (9, [x0, x1, mb, .int 0]))) (ho : 98 ≤ o) : ∃ h', xe (ixP fv) (d + 1) 156 0 [some (.ref o)] [] h = some (.inl none, h') ∧ isSB h' o h.length [] ∧ frm h h' o h.length ∧ h'.length = h.length + 1 ∧ ix_sz h' = ix_sz h + 16 := by
  have hlo := lt_of eo
  have e1 := fun d => m136 (fv := fv) (d := d) (n := 16) eo ho (by decide)
  have is : ix_is (ixP fv) h o "java/lang/StringBuilder" = true := is_of eo (by decide +kernel)
  refine ⟨(h ++ ([.inl (2, 16, ix_z (newarray.typeOf .byte))] : ix_H)).set o (.inr (9, [.ref h.length, .int 0, mb, .int 0])), ?_, ⟨16, fun _ => 0, mb, ?_, ?_, Nat.zero_le _, by decide, fun j hj => absurd hj (Nat.not_lt_zero _), ho, by omega⟩, ⟨?_, ?_⟩, ?_, ?_⟩
  · have z : (16 : Int32) = nI 16 := rfl
    simp only [q156_0, q156_1, q156_3, q156_6 (st := []), i10, eq_self, ft0, ft1, b01_ft, k1r, k1i, xG_some, xH_some, xC_v, xC_n, if_true, if_false, not_true_eq_false, not_false_eq_true, ix_st, ix_st2, List.getElem?_cons_succ, List.getElem?_cons_zero, List.set_cons_succ, List.set_cons_zero, Value.category, List.map_cons, List.map_nil, List.sum_cons, List.sum_nil, Nat.reduceAdd, Nat.reduceLeDiff, Nat.reduceEqDiff, Nat.zero_le, reduceCtorEq, ↓reduceIte, eq_self, xit, is, z, e1]
  · rw [List.getElem?_set, if_pos rfl, if_pos (by rw [List.length_append]; omega)]
    rfl
  · rw [List.getElem?_set_ne (by omega)]
    exact get_end
  · rw [List.length_set, List.length_append]; omega
  · intro k hk ko _
    rw [List.getElem?_set_ne (fun e => ko e.symm), List.getElem?_append_left hk]
  · rw [List.length_set, List.length_append]; rfl
  · rw [ix_sz_set (h ++ ([.inl (2, 16, ix_z (newarray.typeOf .byte))] : ix_H)) o (.inr (9, [x0, x1, mb, .int 0])) (.inr (9, [.ref h.length, .int 0, mb, .int 0])) (get_old eo) rfl, ix_sz_push]
    rfl
theorem m164 (ev : h[v]? = some (.inl (2, cap, .inl a))) (hn : n ≤ cap) (hl : cap ≤ 200000) (h98 : 98 ≤ h.length) : xe (ixP fv) (d + 1) 164 0 [some (.ref v), some (.int 0), some (.int (nI n)), none, none] [] h = some (.inl (some (.ref h.length)), h ++ [.inl (2, n, .inl (va_cpy a (fun _ => 0) 0 0 n))]) := by
  have c1 : 0 ≤ nI n := nI_pos' (by omega)
  have e3 : rN (ixP fv) (h ++ ([.inl (2, n, ix_z (newarray.typeOf .byte))] : ix_H)) v = some (.int (nI cap)) := rN_of (get_old ev) (by decide)
  have e4 : (if nI n < nI cap then nI n else nI cap) = nI n := by
    by_cases q : n < cap
    · rw [if_pos (nI_lt q (by omega))]
    · rw [if_neg (nI_nlt (by omega) (by omega)), show cap = n by omega]
  have e5 : wY (ixP fv) (h ++ ([.inl (2, n, ix_z (newarray.typeOf .byte))] : ix_H)) v 0 h.length 0 (nI n) = some (h ++ [.inl (2, n, .inl (va_cpy a (fun _ => 0) 0 0 n))]) := by
    refine (wY_of (sp := 0) (p := 0) (get_old ev) (g := fun _ => 0) (n1 := n) get_end h98 (Nat.ne_of_lt (lt_of ev)) (by omega) (by omega) hl (by omega)).trans (congrArg some set_end)
  have e6 : xe (ixP fv) d 175 0 [some (.int 0), some (.int (nI n))] [] h = some (.inl none, h) := by
    simp only [q175_0, q175_1, q175_2, q175_8, q175_12, q175_16, q175_26, q175_37 (st := []), i10, eq_self, ft0, ft1, b01_ft, k1r, k1i, xG_some, xH_some, xC_v, xC_n, if_true, if_false, not_true_eq_false, not_false_eq_true, ix_st, ix_st2, List.getElem?_cons_succ, List.getElem?_cons_zero, List.set_cons_succ, List.set_cons_zero, Value.category, List.map_cons, List.map_nil, List.sum_cons, List.sum_nil, Nat.reduceAdd, Nat.reduceLeDiff, Nat.reduceEqDiff, Nat.zero_le, reduceCtorEq, ↓reduceIte, eq_self, xit, c1]
  simp only [q164_0, q164_1, q164_2, q164_5, q164_6, q164_7, q164_8, q164_9, q164_10, q164_12, q164_14, q164_15, q164_16, q164_18, q164_19, q164_20, q164_21, q164_22, q164_23, q164_24, q164_27, q164_30, q164_32 (st := []), i10, eq_self, ft0, ft1, b01_ft, k1r, k1i, xG_some, xH_some, xC_v, xC_n, if_true, if_false, not_true_eq_false, not_false_eq_true, ix_st, ix_st2, List.getElem?_cons_succ, List.getElem?_cons_zero, List.set_cons_succ, List.set_cons_zero, Value.category, List.map_cons, List.map_nil, List.sum_cons, List.sum_nil, Nat.reduceAdd, Nat.reduceLeDiff, Nat.reduceEqDiff, Nat.zero_le, reduceCtorEq, ↓reduceIte, eq_self, xit, e6, Int32.sub_zero, big_nI (show n ≤ 50000000 by omega), nI_clamp (show n < 2 ^ 31 by omega), e3, e4, e5]
theorem m163 (ev : h[v]? = some (.inl (2, cap, .inl a))) (hv : 98 ≤ v) (hn : n ≤ cap) (hl : cap ≤ 200000) (h98 : 98 ≤ h.length) : ∃ b, (∀ d, xe (ixP fv) (d + 2) 163 0 [some (.ref v), some (.int 0), some (.int (nI n))] [] h = some (.inl (some (.ref h.length)), h ++ [.inl (2, n, .inl b)])) ∧ ∀ j, j < n → b j = a j := by
  have e2 : rN (ixP fv) h v = some (.int (nI cap)) := rN_of ev (by decide)
  by_cases c : n = cap
  · subst c
    refine ⟨a, fun d => ?_, fun _ _ => rfl⟩
    have e3 : rY (ixP fv) h v = some (h ++ [.inl (2, n, .inl a)]) := by
      unfold rY ix_ai
      simp only [ev]
      exact if_pos ⟨hv, by trivial⟩
    have e4 : rT (ixP fv) (h ++ [.inl (2, n, .inl a)]) h.length = true := by
      unfold rT
      rw [get_end]
      exact (Bool.and_eq_true _ _).mpr ⟨decide_eq_true h98, rfl⟩
    simp only [q163_0, q163_1, q163_4, q163_5, q163_6, q163_7, q163_10, q163_11, q163_12, q163_13, q163_16 (st := []), q163_17, q163_18, q163_21, q163_24 (st := []), i10, eq_self, ft0, ft1, b01_ft, k1r, k1i, xG_some, xH_some, xC_v, xC_n, if_true, if_false, not_true_eq_false, not_false_eq_true, ix_st, ix_st2, List.getElem?_cons_succ, List.getElem?_cons_zero, List.set_cons_succ, List.set_cons_zero, Value.category, List.map_cons, List.map_nil, List.sum_cons, List.sum_nil, Nat.reduceAdd, Nat.reduceLeDiff, Nat.reduceEqDiff, Nat.zero_le, reduceCtorEq, ↓reduceIte, eq_self, xit, e2, e3, e4]
  · have c1 : ¬ nI n = nI cap := fun e => c ((nI_eq (by omega) (by omega)).mp e)
    have e3 := fun d => m164 (fv := fv) (d := d) ev hn hl h98
    refine ⟨va_cpy a (fun _ => 0) 0 0 n, fun d => ?_, fun j hj => ?_⟩
    · simp only [q163_0, q163_1, q163_4, q163_5, q163_6, q163_7, q163_10, q163_11, q163_12, q163_13, q163_16 (st := []), q163_17, q163_18, q163_21, q163_24 (st := []), i10, eq_self, ft0, ft1, b01_ft, k1r, k1i, xG_some, xH_some, xC_v, xC_n, if_true, if_false, not_true_eq_false, not_false_eq_true, ix_st, ix_st2, List.getElem?_cons_succ, List.getElem?_cons_zero, List.set_cons_succ, List.set_cons_zero, Value.category, List.map_cons, List.map_nil, List.sum_cons, List.sum_nil, Nat.reduceAdd, Nat.reduceLeDiff, Nat.reduceEqDiff, Nat.zero_le, reduceCtorEq, ↓reduceIte, eq_self, xit, e2, c1, e3]
    · unfold va_cpy
      rw [if_pos (by omega), Nat.zero_add, Nat.sub_zero]
theorem q148_3n {st : List Value} {l0 l1 : Option Value} {v0 : Nat} {o : Nat} (hs : (st.map Value.category).sum ≤ 8) (ho : ix_is (ixP fv) h o "java/lang/String" = true) : xe (ixP fv) (d + 1) 148 3 [l0, l1] (.null :: .ref v0 :: .ref o :: st) h = xC (ixP fv) (d + 1) 148 6 [l0, l1] st (xe (ixP fv) d 152 0 [some (.ref o), some (.ref v0), some .null, none, none] [] h) := x_invokespecial (i := 489) (kx := (2, 152, "java/lang/String", "")) (me := ixM152) (as := [.ref v0, .null]) (qm148 fv) (show ix_dc ixI148 3 = some (.invokespecial 489, 3) by decide +kernel) (show ix_fd 11 489 ixCT = some (2, 152, "java/lang/String", "") by decide +kernel) (qm152 fv) rfl rfl (Nat.le_of_ble_eq_true rfl) rfl rfl rfl hs ho
theorem q155_5n {st : List Value} {l0 l1 : Option Value} {v0 : Int32} {v1 : Int32} (hs : (st.map Value.category).sum ≤ 8) : xe (ixP fv) (d + 1) 155 5 [l0, l1] (.null :: .int v1 :: .int v0 :: st) h = xC (ixP fv) (d + 1) 155 8 [l0, l1] st (xe (ixP fv) d 166 0 [some (.int v0), some (.int v1), some .null] [] h) := x_invokestatic (i := 1059) (kx := (1, 166, "jdk/internal/util/Preconditions", "")) (me := ixM166) (as := [.int v0, .int v1, .null]) (qm155 fv) (show ix_dc ixI155 5 = some (.invokestatic 1059, 3) by decide +kernel) (show ix_fd 11 1059 ixCT = some (1, 166, "jdk/internal/util/Preconditions", "") by decide +kernel) (qm166 fv) rfl rfl (Nat.le_of_ble_eq_true rfl) rfl rfl rfl hs
theorem m152 (eo : h[o]? = some (.inr (8, [x0, x1, hx, hy]))) (ho : 98 ≤ o) (hs : isSB h q v l) (hl : l.length ≤ 40000) : ∃ b, (∀ d, xe (ixP fv) (d + 3) 152 0 [some (.ref o), some (.ref q), some .null, none, none] [] h = some (.inl none, ((h.set o (.inr (8, [.ref h.length, .int 0, hx, hy]))) ++ [.inl (2, l.length, .inl b)]))) ∧ bsl b l := by
  obtain ⟨cap, a, mb, eq, ev, h1, h2, h3, hq, hv⟩ := hs
  have hlo := lt_of eo
  have nvo : v ≠ o := fun e => by rw [e, eo] at ev; cases ev
  have e1 : ∀ ty fin X, rF (ixP fv) h q (9, 0, ty, fin, X) = some (.ref v) := fun ty fin X => rF_of eq hq rfl
  have e2 : ∀ ty fin X, rF (ixP fv) h q (9, 3, ty, fin, X) = some (.int (nI l.length)) := fun ty fin X => rF_of eq hq rfl
  have e3 : ∀ ty fin X, rF (ixP fv) h q (9, 1, ty, fin, X) = some (.int 0) := fun ty fin X => rF_of eq hq rfl
  have e4 : wF (ixP fv) h o (8, 1, .byte, true, none) true (.int 0) = some (h.set o (.inr (8, [x0, .int 0, hx, hy]))) := wF_of eo ho (by show 1 < 4; decide) fb0 (Or.inr ⟨rfl, rfl⟩)
  have ev2 : (h.set o (.inr (8, [x0, .int 0, hx, hy])))[v]? = some (.inl (2, cap, .inl a)) := (List.getElem?_set_ne (fun e => nvo e.symm)).trans ev
  obtain ⟨b, e5, e6⟩ := m163 (fv := fv) ev2 hv h1 (by omega) (by rw [List.length_set]; omega)
  rw [List.length_set] at e5
  have e7 : wF (ixP fv) (h.set o (.inr (8, [x0, .int 0, hx, hy])) ++ [.inl (2, l.length, .inl b)]) o (8, 0, (.array .byte), true, none) true (.ref h.length) = some ((h.set o (.inr (8, [.ref h.length, .int 0, hx, hy]))) ++ [.inl (2, l.length, .inl b)]) := by
    refine (wF_of (get_old (get_set eo)) ho (by show 0 < 4; decide) rfl (Or.inr ⟨rfl, rfl⟩)).trans (congrArg some ?_)
    rw [List.set_append_left _ _ (by rw [List.length_set]; exact hlo), set_set]
    rfl
  refine ⟨b, fun d => ?_, fun j hj => by rw [h3 j hj, e6 j hj]⟩
  simp only [q152_0, q152_1, q152_4, q152_5, q152_8, q152_9, q152_10, q152_13, q152_15, q152_16, q152_19, q152_22, q152_23, q152_24, q152_27, q152_28, q152_29, q152_30, q152_32, q152_35, q152_38, q152_41, q152_44, q152_47, q152_48, q152_51, q152_54, q152_55, q152_56, q152_57, q152_62, q152_65, q152_66, q152_67, q152_70, q152_75, q152_78 (st := []), q152_79, q152_80, q152_81, q152_84, q152_85, q152_86, q152_87, q152_89, q152_90, q152_91, q152_94, q152_97 (st := []), q142_0, q142_1, q142_4 (st := []), q160_0, q160_1, q160_4 (st := []), q137_0, q137_1, q137_4 (st := []), q143_0, q143_3, q143_6, q143_7, q143_10, q143_13, q143_14, q143_17, q143_18 (st := []), i10, eq_self, ft0, ft1, b01_ft, k1r, k1i, xG_some, xH_some, xC_v, xC_n, if_true, if_false, not_true_eq_false, not_false_eq_true, ix_st, ix_st2, List.getElem?_cons_succ, List.getElem?_cons_zero, List.set_cons_succ, List.set_cons_zero, Value.category, List.map_cons, List.map_nil, List.sum_cons, List.sum_nil, Nat.reduceAdd, Nat.reduceLeDiff, Nat.reduceEqDiff, Nat.zero_le, reduceCtorEq, ↓reduceIte, eq_self, xit, isSb eq, e1, e2, e3, e4, e5, e7]
theorem m148 {r : ix_Rs} (is : ix_is (ixP fv) h o "java/lang/String" = true) (e : xe (ixP fv) (d + 3) 152 0 [some (.ref o), some (.ref q), some .null, none, none] [] h = some r) (hr : r.1 = .inl none := by rfl) : xe (ixP fv) (d + 4) 148 0 [some (.ref o), some (.ref q)] [] h = some (.inl none, r.2) := by
  obtain ⟨r1, r2⟩ := r
  subst hr
  simp only [q148_0, q148_1, q148_2, q148_6 (st := []), q148_3n, i10, eq_self, ft0, ft1, b01_ft, k1r, k1i, xG_some, xH_some, xC_v, xC_n, if_true, if_false, not_true_eq_false, not_false_eq_true, ix_st, ix_st2, List.getElem?_cons_succ, List.getElem?_cons_zero, List.set_cons_succ, List.set_cons_zero, Value.category, List.map_cons, List.map_nil, List.sum_cons, List.sum_nil, Nat.reduceAdd, Nat.reduceLeDiff, Nat.reduceEqDiff, Nat.zero_le, reduceCtorEq, ↓reduceIte, eq_self, xit, is, e]
theorem m159 (hs : isSB h o v l) (hl : l.length ≤ 40000) : ∃ h', xe (ixP fv) (d + 5) 159 0 [some (.ref o)] [] h = some (.inl (some (.ref h.length)), h') ∧ isStr h' h.length (h.length + 1) l ∧ (∀ k, k < h.length → h'[k]? = h[k]?) ∧ h'.length = h.length + 2 ∧ ix_sz h' = ix_sz h + 10 + l.length := by
  have hs' := hs
  obtain ⟨cap, a, mb, eo, ev, h1, h2, h3, ho, hv⟩ := hs
  have hlo := lt_of eo
  have e1 : (h ++ ([.inr (8, [(.array .byte), .byte, .int, .boolean].map defaultValue)] : ix_H))[h.length]? = some (.inr (8, [(.array .byte), .byte, .int, .boolean].map defaultValue)) := get_end
  have hs2 : isSB (h ++ ([.inr (8, [(.array .byte), .byte, .int, .boolean].map defaultValue)] : ix_H)) o v l := ⟨cap, a, mb, get_old eo, get_old ev, h1, h2, h3, ho, hv⟩
  have is : ix_is (ixP fv) (h ++ ([.inr (8, [(.array .byte), .byte, .int, .boolean].map defaultValue)] : ix_H)) h.length "java/lang/String" = true := is_of e1 (by decide +kernel)
  obtain ⟨b, e2, e3⟩ := m152 (fv := fv) (x0 := .null) (x1 := .int 0) (hx := .int 0) (hy := .int 0) e1 (by omega) hs2 hl
  rw [set_end, List.length_append] at e2
  have e4 := fun d => (m148 (fv := fv) (d := d) is (e2 _)).trans (congrArg (fun z => some (Sum.inl none, h ++ ([.inr (8, [.ref z, .int 0, .int 0, .int 0])] : ix_H) ++ ([.inl (2, l.length, .inl b)] : ix_H))) (show h.length + _ = h.length + 1 from rfl))
  refine ⟨(h ++ ([.inr (8, [.ref (h.length + 1), .int 0, .int 0, .int 0])] : ix_H)) ++ [.inl (2, l.length, .inl b)], ?_, ⟨b, [.int 0, .int 0], get_old get_end, ?_, e3⟩, fun k hk => ?_, ?_, ?_⟩
  · simp only [q159_0, q159_3, q159_4, q159_8 (st := []), q159_5 (st := [.ref h.length]) (Nat.le_of_ble_eq_true rfl), i10, eq_self, k1r, k1i, xC_n, Nat.reduceAdd, Nat.reduceLeDiff, is, e4]
  · rw [List.getElem?_append_right (by rw [List.length_append]; exact Nat.le_refl _), List.length_append]
    rw [show h.length + 1 - (h.length + [(.inr (8, [.ref (h.length + 1), .int 0, .int 0, .int 0]) : ix_C)].length) = 0 by rw [List.length_singleton]; omega]
    rfl
  · rw [List.getElem?_append_left (by rw [List.length_append]; omega), List.getElem?_append_left hk]
  · rw [List.length_append, List.length_append]; rfl
  · rw [ix_sz_push, ix_sz_push]
    rfl
theorem m155 (hfv : fv = .null ∨ fv = .ref 97) (hk : k < n) (hn : n ≤ 200000) : xe (ixP fv) (d + 1) 155 0 [some (.int (nI k)), some (.int (nI n))] [] h = some (.inl none, h) := by
  have c1 : ¬ nI k < 0 := nI_pos (by omega)
  have c2 : nI k < nI n := nI_lt hk (by omega)
  rcases hfv with rfl | rfl
  · simp only [q155_0, q155_1, q155_2, q155_8, q155_9 (st := []), q155_5n, q166_0, q166_1, q166_4, q166_5, q166_6, q166_9, q166_10, q166_11, q166_16, q166_17 (st := []), i10, eq_self, ft0, ft1, b01_ft, k1r, k1i, xG_some, xH_some, xC_v, xC_n, if_true, if_false, not_true_eq_false, not_false_eq_true, ix_st, ix_st2, List.getElem?_cons_succ, List.getElem?_cons_zero, List.set_cons_succ, List.set_cons_zero, Value.category, List.map_cons, List.map_nil, List.sum_cons, List.sum_nil, Nat.reduceAdd, Nat.reduceLeDiff, Nat.reduceEqDiff, Nat.zero_le, reduceCtorEq, ↓reduceIte, eq_self, xit, true_or, c1, c2]
  · simp only [q155_0, q155_1, q155_2, q155_5, q155_8, q155_9 (st := []), q166_0, q166_1, q166_4, q166_5, q166_6, q166_9, q166_10, q166_11, q166_16, q166_17 (st := []), i10, eq_self, ft0, ft1, b01_ft, k1r, k1i, xG_some, xH_some, xC_v, xC_n, if_true, if_false, not_true_eq_false, not_false_eq_true, ix_st, ix_st2, List.getElem?_cons_succ, List.getElem?_cons_zero, List.set_cons_succ, List.set_cons_zero, Value.category, List.map_cons, List.map_nil, List.sum_cons, List.sum_nil, Nat.reduceAdd, Nat.reduceLeDiff, Nat.reduceEqDiff, Nat.zero_le, reduceCtorEq, ↓reduceIte, eq_self, xit, or_true, c1, c2]
theorem ch_w : ∀ c, c < 128 → (((nI c) &&& (255 : Int32)).toUInt32 % 65536).toInt32 = nI c ∧ ix_ft .char (.int (nI c)) = true := by decide +kernel
theorem m161 {c : Nat} (hfv : fv = .null ∨ fv = .ref 97) (ew : h[w]? = some (.inl (2, n, .inl a))) (hk : k < n) (hn : n ≤ 200000) (hc : a k = nI c) (hc2 : c < 128) : xe (ixP fv) (d + 2) 161 0 [some (.ref w), some (.int (nI k))] [] h = some (.inl (some (.int (nI c))), h) := by
  have e1 : rN (ixP fv) h w = some (.int (nI n)) := rN_of ew (by decide)
  have e2 : rB h w (nI k) = some (.int (nI c)) := by
    rw [rB_of ew (in_big hk (by omega)), nI_clamp (by omega), hc]
  have e3 := fun d => m155 (d := d) (h := h) hfv hk hn
  simp only [q161_0, q161_1, q161_2, q161_3, q161_6, q161_7, q161_8, q161_9, q161_12, q161_13, q161_14 (st := []), i10, eq_self, ft0, ft1, b01_ft, k1r, k1i, xG_some, xH_some, xC_v, xC_n, if_true, if_false, not_true_eq_false, not_false_eq_true, ix_st, ix_st2, List.getElem?_cons_succ, List.getElem?_cons_zero, List.set_cons_succ, List.set_cons_zero, Value.category, List.map_cons, List.map_nil, List.sum_cons, List.sum_nil, Nat.reduceAdd, Nat.reduceLeDiff, Nat.reduceEqDiff, Nat.zero_le, reduceCtorEq, ↓reduceIte, eq_self, xit, e1, e2, e3, (ch_w c hc2).1, (ch_w c hc2).2]
theorem m150 {c : Nat} (hfv : fv = .null ∨ fv = .ref 97) (hs : isStr h o w l) (hk : l[k]? = some (nI c)) (hc : c < 128) (hl : l.length ≤ 200000) : xe (ixP fv) (d + 3) 150 0 [some (.ref o), some (.int (nI k))] [] h = some (.inl (some (.int (nI c))), h) := by
  obtain ⟨a, ys, eo, ew, h3⟩ := hs
  have hkl : k < l.length := (List.getElem?_eq_some_iff.mp hk).1
  have hac : a k = nI c := by
    have := h3 k hkl
    rw [hk] at this
    exact (Option.some.inj this).symm
  have e1 : ∀ ty fin, rF (ixP fv) h o (8, 0, ty, fin, none) = some (.ref w) := fun ty fin => rF_o eo rfl
  have e2 := fun d => m161 (d := d) hfv ew hkl hl hac hc
  simp only [q150_0, q150_1, q150_4, q150_7, q150_8, q150_11, q150_12, q150_15 (st := []), q150_16, q150_17, q150_20, q150_24 (st := []), i10, eq_self, ft0, ft1, b01_ft, k1r, k1i, xG_some, xH_some, xC_v, xC_n, if_true, if_false, not_true_eq_false, not_false_eq_true, ix_st, ix_st2, List.getElem?_cons_succ, List.getElem?_cons_zero, List.set_cons_succ, List.set_cons_zero, Value.category, List.map_cons, List.map_nil, List.sum_cons, List.sum_nil, Nat.reduceAdd, Nat.reduceLeDiff, Nat.reduceEqDiff, Nat.zero_le, reduceCtorEq, ↓reduceIte, eq_self, xit, isSt eo, m154 eo, e1, e2, (ch_w c hc).2]
end STR3
