/-! STRINGS: numbers, a new builder, its string, chars (written by gen56.py). -/
def old (h : ix_H) : Prop := h[95]? = some (.inl (2, 100, .inl (fun j => ixD1.getD j 0))) ∧ h[96]? = some (.inl (2, 100, .inl (fun j => ixD2.getD j 0)))
theorem d1_of : ∀ j, j < 100 → ixD1.getD j 0 = nI (48 + j % 10) := by decide +kernel
theorem d2_of : ∀ j, j < 100 → ixD2.getD j 0 = nI (48 + j / 10) := by decide +kernel
/-- the digits of a number -/
def dgt (n : Nat) : List Int32 := if n < 10 then [nI (48 + n)] else if n < 100 then [nI (48 + n / 10), nI (48 + n % 10)] else [nI (48 + n / 100), nI (48 + n % 100 / 10), nI (48 + n % 10)]
section STR2
variable {fv : Value} {d : Nat} {h : ix_H} {o v w q cap m n k e : Nat} {a b f : Nat → Int32} {mb hx hy : Value} {ys : List Value} {cnt x : Int32} {l t : List Int32}
theorem m147 (hn : n < 1000) : xe (ixP fv) d 147 0 [some (.int (nI n)), none, none, none] [] h = some (.inl (some (.int (nI (dgt n).length))), h) := by
  have h0 : ¬ nI n < 0 := nI_pos (by omega)
  have t1 : (10 : Int32) * -10 = -100 := by decide
  have t2 : (10 : Int32) * -100 = -1000 := by decide
  have z1 : (-10 : Int32) = -nI 10 := by decide
  have z2 : (-100 : Int32) = -nI 100 := by decide
  have z3 : (-1000 : Int32) = -nI 1000 := by decide
  unfold dgt
  by_cases c1 : n < 10
  · have e1 : ¬ -nI n ≤ -10 := by rw [z1, sb_nle (by omega) (by decide)]; omega
    rw [if_pos c1]
    simp only [q147_0, q147_1, q147_2, q147_3, q147_6, q147_7, q147_8, q147_9, q147_10, q147_11, q147_13, q147_14, q147_15, q147_16, q147_17, q147_19, q147_22, q147_23, q147_24, q147_27, q147_28, q147_29, q147_30 (st := []), q147_31, q147_33, q147_34, q147_35, q147_36, q147_39, q147_42, q147_44, q147_45, q147_46 (st := []), i10, eq_self, ft0, ft1, b01_ft, k1r, k1i, xG_some, xH_some, xC_v, xC_n, if_true, if_false, not_true_eq_false, not_false_eq_true, ix_st, ix_st2, List.getElem?_cons_succ, List.getElem?_cons_zero, List.set_cons_succ, List.set_cons_zero, Value.category, List.map_cons, List.map_nil, List.sum_cons, List.sum_nil, Nat.reduceAdd, Nat.reduceLeDiff, Nat.reduceEqDiff, Nat.zero_le, reduceCtorEq, ↓reduceIte, eq_self, xit, Int32.reduceAdd, Int32.reduceLE, Int32.reduceLT, t1, t2, h0, e1]
    rfl
  have e1 : -nI n ≤ -10 := by rw [z1, sb_nle (by omega) (by decide)]; omega
  rw [if_neg c1]
  by_cases c2 : n < 100
  · have e2 : ¬ -nI n ≤ -100 := by rw [z2, sb_nle (by omega) (by decide)]; omega
    rw [if_pos c2]
    simp only [q147_0, q147_1, q147_2, q147_3, q147_6, q147_7, q147_8, q147_9, q147_10, q147_11, q147_13, q147_14, q147_15, q147_16, q147_17, q147_19, q147_22, q147_23, q147_24, q147_27, q147_28, q147_29, q147_30 (st := []), q147_31, q147_33, q147_34, q147_35, q147_36, q147_39, q147_42, q147_44, q147_45, q147_46 (st := []), i10, eq_self, ft0, ft1, b01_ft, k1r, k1i, xG_some, xH_some, xC_v, xC_n, if_true, if_false, not_true_eq_false, not_false_eq_true, ix_st, ix_st2, List.getElem?_cons_succ, List.getElem?_cons_zero, List.set_cons_succ, List.set_cons_zero, Value.category, List.map_cons, List.map_nil, List.sum_cons, List.sum_nil, Nat.reduceAdd, Nat.reduceLeDiff, Nat.reduceEqDiff, Nat.zero_le, reduceCtorEq, ↓reduceIte, eq_self, xit, Int32.reduceAdd, Int32.reduceLE, Int32.reduceLT, t1, t2, h0, e1, e2]
    rfl
  have e2 : -nI n ≤ -100 := by rw [z2, sb_nle (by omega) (by decide)]; omega
  have e3 : ¬ -nI n ≤ -1000 := by rw [z3, sb_nle (by omega) (by decide)]; omega
  rw [if_neg c2]
  simp only [q147_0, q147_1, q147_2, q147_3, q147_6, q147_7, q147_8, q147_9, q147_10, q147_11, q147_13, q147_14, q147_15, q147_16, q147_17, q147_19, q147_22, q147_23, q147_24, q147_27, q147_28, q147_29, q147_30 (st := []), q147_31, q147_33, q147_34, q147_35, q147_36, q147_39, q147_42, q147_44, q147_45, q147_46 (st := []), i10, eq_self, ft0, ft1, b01_ft, k1r, k1i, xG_some, xH_some, xC_v, xC_n, if_true, if_false, not_true_eq_false, not_false_eq_true, ix_st, ix_st2, List.getElem?_cons_succ, List.getElem?_cons_zero, List.set_cons_succ, List.set_cons_zero, Value.category, List.map_cons, List.map_nil, List.sum_cons, List.sum_nil, Nat.reduceAdd, Nat.reduceLeDiff, Nat.reduceEqDiff, Nat.zero_le, reduceCtorEq, ↓reduceIte, eq_self, xit, Int32.reduceAdd, Int32.reduceLE, Int32.reduceLT, t1, t2, h0, e1, e2, e3]
  rfl
theorem rB_of {n : Nat} {a : Nat → Int32} {i : Int32} (e : h[o]? = some (.inl (2, n, .inl a))) (hi : ix_in i n = true) : rB h o i = some (.int (a i.toNatClampNeg)) := by
  unfold rB ix_ai
  rw [e]
  exact if_pos ⟨Or.inl rfl, hi⟩
theorem wB_of {n : Nat} {a : Nat → Int32} {i v : Int32} (e : h[o]? = some (.inl (2, n, .inl a))) (ho : 98 ≤ o) (hv : ix_ft .byte (.int v) = true) (hi : ix_in i n = true) : wB (ixP fv) h o i v = some (h.set o (.inl (2, n, .inl (upd a i.toNatClampNeg v)))) := by
  unfold wB ix_ai
  rw [e]
  exact if_pos ⟨ho, Or.inl ⟨rfl, hv⟩, hi⟩
theorem in_big {k m : Nat} (hk : k < m) (hm : m ≤ 50000000) : ix_in (nI k) m = true := by
  rw [ix_in_of hm]
  simp [nI_pos (show k < 2 ^ 31 by omega), nI_ge hk (by omega)]
theorem ft_dg : ∀ j, j < 100 → ix_ft .byte (.int (nI (48 + j % 10))) = true ∧ ix_ft .byte (.int (nI (48 + j / 10))) = true := by decide +kernel
theorem o_1 (ho : old h) (hj : k < 100) : rB h 95 (nI k) = some (.int (nI (48 + k % 10))) := by
  rw [rB_of ho.1 (in_big hj (by decide)), nI_clamp (by omega), d1_of k hj]
theorem o_2 (ho : old h) (hj : k < 100) : rB h 96 (nI k) = some (.int (nI (48 + k / 10))) := by
  rw [rB_of ho.2 (in_big hj (by decide)), nI_clamp (by omega), d2_of k hj]
theorem old_set {c : ix_C} (ho : old h) (hv : 98 ≤ v) : old (h.set v c) := by
  unfold old
  rw [List.getElem?_set_ne (by omega), List.getElem?_set_ne (by omega)]
  exact ho
theorem set_set {c c' : ix_C} : (h.set v c).set v c' = h.set v c' := List.set_set ..
theorem w_dg (ev : h[v]? = some (.inl (2, cap, .inl a))) (hv : 98 ≤ v) (hc : k < cap) (hl : cap ≤ 200000) {c : Nat} (hf : ix_ft .byte (.int (nI c)) = true) : wB (ixP fv) h v (nI k) (nI c) = some (h.set v (.inl (2, cap, .inl (upd a k (nI c))))) := by
  rw [wB_of ev hv hf (in_big hc (by omega)), nI_clamp (by omega)]
theorem get_set {c : ix_C} {y : ix_C} (ev : h[v]? = some y) : (h.set v c)[v]? = some c := by
  rw [List.getElem?_set, if_pos rfl, if_pos (lt_of ev)]
def wdg (a : Nat → Int32) (e n : Nat) : Nat → Int32 := if n < 10 then upd a (e - 1) (nI (48 + n)) else if n < 100 then upd (upd a (e - 1) (nI (48 + n % 10))) (e - 2) (nI (48 + n / 10)) else upd (upd (upd a (e - 1) (nI (48 + n % 10))) (e - 2) (nI (48 + n % 100 / 10))) (e - 3) (nI (48 + n / 100))
theorem m146 (ho : old h) (ev : h[v]? = some (.inl (2, cap, .inl a))) (hv : 98 ≤ v) (hn : n < 1000) (he : (dgt n).length ≤ e) (hec : e ≤ cap) (hl : cap ≤ 200000) : xe (ixP fv) d 146 0 [some (.int (nI n)), some (.int (nI e)), some (.ref v), none, none, none, none] [] h = some (.inl (some (.int (nI (e - (dgt n).length)))), h.set v (.inl (2, cap, .inl (wdg a e n)))) := by
  have h0 : 0 ≤ nI n := nI_pos' (by omega)
  have z9 : (-9 : Int32) = -nI 9 := by decide
  have z2 : (-100 : Int32) = -nI 100 := by decide
  have h100 : (100 : Int32) ≠ 0 := by decide
  have nn : ∀ x : Int32, - -x = x := fun x => Int32.neg_neg
  unfold dgt at he ⊢
  unfold wdg
  by_cases c1 : n < 10
  · have e1 : -100 < -nI n := by rw [z2, sb_nlt (by decide) (by omega)]; omega
    have e2 : -9 ≤ -nI n := by rw [z9, sb_nle (by decide) (by omega)]; omega
    rw [if_pos c1] at he ⊢
    rw [if_pos c1]
    have hee : 1 ≤ e := he
    obtain ⟨y, rfl⟩ : ∃ y, e = y + 1 := ⟨e - 1, by omega⟩
    have w1 := w_dg (fv := fv) (k := y) ev hv (by omega) hl (ft_dg n (by omega)).1
    have hm : n % 10 = n := Nat.mod_eq_of_lt c1
    rw [hm] at w1
    have o1 := o_1 ho (show n < 100 by omega)
    rw [hm] at o1
    simp only [q146_0, q146_1, q146_3, q146_4, q146_7, q146_8, q146_11, q146_12, q146_14, q146_16, q146_19, q146_20, q146_21, q146_22, q146_23, q146_25, q146_28, q146_29, q146_31, q146_32, q146_33, q146_34, q146_36, q146_37, q146_38, q146_39, q146_41, q146_42, q146_43, q146_44, q146_47, q146_49, q146_52, q146_54, q146_55, q146_56, q146_57, q146_60, q146_62, q146_65, q146_67, q146_68, q146_69, q146_72, q146_73, q146_76, q146_78, q146_81, q146_82, q146_83, q146_84, q146_85, q146_86, q146_88, q146_91, q146_92, q146_95, q146_97, q146_100, q146_101, q146_102, q146_103, q146_104, q146_106, q146_109, q146_110, q146_113, q146_115, q146_117, q146_118, q146_120 (st := []), i10, eq_self, ft0, ft1, b01_ft, k1r, k1i, xG_some, xH_some, xC_v, xC_n, if_true, if_false, not_true_eq_false, not_false_eq_true, ix_st, ix_st2, List.getElem?_cons_succ, List.getElem?_cons_zero, List.set_cons_succ, List.set_cons_zero, Value.category, List.map_cons, List.map_nil, List.sum_cons, List.sum_nil, Nat.reduceAdd, Nat.reduceLeDiff, Nat.reduceEqDiff, Nat.zero_le, reduceCtorEq, ↓reduceIte, eq_self, xit, i10, h0, e1, e2, nn, pk_m1, o1, w1, Nat.add_sub_cancel, List.length_cons, List.length_nil, Nat.zero_add]
  by_cases c2 : n < 100
  · have e1 : -100 < -nI n := by rw [z2, sb_nlt (by decide) (by omega)]; omega
    have e2 : ¬ -9 ≤ -nI n := by rw [z9, sb_nle (by decide) (by omega)]; omega
    rw [if_neg c1, if_pos c2] at he ⊢
    rw [if_neg c1, if_pos c2]
    have hee : 2 ≤ e := he
    obtain ⟨y, rfl⟩ : ∃ y, e = y + 1 + 1 := ⟨e - 2, by omega⟩
    have w1 := w_dg (fv := fv) (k := y + 1) ev hv (by omega) hl (ft_dg n (by omega)).1
    have w2 := w_dg (fv := fv) (k := y) (get_set (c := .inl (2, cap, .inl (upd a (y + 1) (nI (48 + n % 10))))) ev) hv (by omega) hl (ft_dg n (by omega)).2
    have o1 := o_1 ho (show n < 100 by omega)
    have o2 := o_2 (old_set (c := .inl (2, cap, .inl (upd a (y + 1) (nI (48 + n % 10))))) ho hv) (show n < 100 by omega)
    simp only [q146_0, q146_1, q146_3, q146_4, q146_7, q146_8, q146_11, q146_12, q146_14, q146_16, q146_19, q146_20, q146_21, q146_22, q146_23, q146_25, q146_28, q146_29, q146_31, q146_32, q146_33, q146_34, q146_36, q146_37, q146_38, q146_39, q146_41, q146_42, q146_43, q146_44, q146_47, q146_49, q146_52, q146_54, q146_55, q146_56, q146_57, q146_60, q146_62, q146_65, q146_67, q146_68, q146_69, q146_72, q146_73, q146_76, q146_78, q146_81, q146_82, q146_83, q146_84, q146_85, q146_86, q146_88, q146_91, q146_92, q146_95, q146_97, q146_100, q146_101, q146_102, q146_103, q146_104, q146_106, q146_109, q146_110, q146_113, q146_115, q146_117, q146_118, q146_120 (st := []), i10, eq_self, ft0, ft1, b01_ft, k1r, k1i, xG_some, xH_some, xC_v, xC_n, if_true, if_false, not_true_eq_false, not_false_eq_true, ix_st, ix_st2, List.getElem?_cons_succ, List.getElem?_cons_zero, List.set_cons_succ, List.set_cons_zero, Value.category, List.map_cons, List.map_nil, List.sum_cons, List.sum_nil, Nat.reduceAdd, Nat.reduceLeDiff, Nat.reduceEqDiff, Nat.zero_le, reduceCtorEq, ↓reduceIte, eq_self, xit, i10, h0, e1, e2, nn, pk_m1, o1, o2, w1, w2, set_set, Nat.add_sub_cancel, List.length_cons, List.length_nil, Nat.zero_add]
    rfl
  · have e0 : ¬ -100 < -nI n := by rw [z2, sb_nlt (by decide) (by omega)]; omega
    have e1 : -100 < -nI (n / 100) := by rw [z2, sb_nlt (by decide) (by omega)]; omega
    have e2 : -9 ≤ -nI (n / 100) := by rw [z9, sb_nle (by decide) (by omega)]; omega
    rw [if_neg c1, if_neg c2] at he ⊢
    rw [if_neg c1, if_neg c2]
    have hee : 3 ≤ e := he
    obtain ⟨y, rfl⟩ : ∃ y, e = y + 1 + 1 + 1 := ⟨e - 3, by omega⟩
    have hm : n % 100 % 10 = n % 10 := by omega
    have hd : n / 100 % 10 = n / 100 := by omega
    have w1 := w_dg (fv := fv) (k := y + 1 + 1) ev hv (by omega) hl (ft_dg (n % 100) (by omega)).1
    rw [hm] at w1
    have w2 := w_dg (fv := fv) (k := y + 1) (get_set (c := .inl (2, cap, .inl (upd a (y + 1 + 1) (nI (48 + n % 10))))) ev) hv (by omega) hl (ft_dg (n % 100) (by omega)).2
    have w3 := w_dg (fv := fv) (k := y) (get_set (c := .inl (2, cap, .inl (upd (upd a (y + 1 + 1) (nI (48 + n % 10))) (y + 1) (nI (48 + n % 100 / 10))))) ev) hv (by omega) hl (ft_dg (n / 100) (by omega)).1
    rw [hd] at w3
    have o1 := o_1 ho (show n % 100 < 100 by omega)
    rw [hm] at o1
    have o2 := o_2 (old_set (c := .inl (2, cap, .inl (upd a (y + 1 + 1) (nI (48 + n % 10))))) ho hv) (show n % 100 < 100 by omega)
    have o3 := o_1 (old_set (c := .inl (2, cap, .inl (upd (upd a (y + 1 + 1) (nI (48 + n % 10))) (y + 1) (nI (48 + n % 100 / 10))))) ho hv) (show n / 100 < 100 by omega)
    rw [hd] at o3
    simp only [q146_0, q146_1, q146_3, q146_4, q146_7, q146_8, q146_11, q146_12, q146_14, q146_16, q146_19, q146_20, q146_21, q146_22, q146_23, q146_25, q146_28, q146_29, q146_32, q146_33, q146_34, q146_36, q146_37, q146_38, q146_39, q146_41, q146_42, q146_43, q146_44, q146_47, q146_49, q146_52, q146_54, q146_55, q146_56, q146_57, q146_60, q146_62, q146_65, q146_67, q146_68, q146_69, q146_72, q146_73, q146_76, q146_78, q146_81, q146_82, q146_83, q146_84, q146_85, q146_86, q146_88, q146_91, q146_92, q146_95, q146_97, q146_100, q146_101, q146_102, q146_103, q146_104, q146_106, q146_109, q146_110, q146_113, q146_115, q146_117, q146_118, q146_120 (st := []), q146_31 h100, i10, eq_self, ft0, ft1, b01_ft, k1r, k1i, xG_some, xH_some, xC_v, xC_n, if_true, if_false, not_true_eq_false, not_false_eq_true, ix_st, ix_st2, List.getElem?_cons_succ, List.getElem?_cons_zero, List.set_cons_succ, List.set_cons_zero, Value.category, List.map_cons, List.map_nil, List.sum_cons, List.sum_nil, Nat.reduceAdd, Nat.reduceLeDiff, Nat.reduceEqDiff, Nat.zero_le, reduceCtorEq, ↓reduceIte, eq_self, xit, i10, h0, e0, e1, e2, nn, pk_m1, sb_ndiv (show n < 2 ^ 31 by omega), sb_nrem (show n < 2 ^ 31 by omega), o1, o2, o3, w1, w2, w3, set_set, Nat.add_sub_cancel, List.length_cons, List.length_nil, Nat.zero_add]
    rfl
theorem wdg_lo {j : Nat} (hj : j + (dgt n).length < e + 0 ∨ j + (dgt n).length < e) : wdg a e n j = a j := by
  have hj : j + (dgt n).length < e := by omega
  unfold dgt at hj
  unfold wdg
  split
  · next c => rw [if_pos c] at hj; exact upd_ne (by have : j + 1 < e := hj; omega)
  · next c =>
    rw [if_neg c] at hj
    split
    · next c2 =>
      rw [if_pos c2] at hj
      have : j + 2 < e := hj
      rw [upd_ne (by omega), upd_ne (by omega)]
    · next c2 =>
      rw [if_neg c2] at hj
      have : j + 3 < e := hj
      rw [upd_ne (by omega), upd_ne (by omega), upd_ne (by omega)]
theorem bsl_dg (h1 : bsl a l) : bsl (wdg a (l.length + (dgt n).length) n) (l ++ dgt n) := by
  intro j hj
  rw [List.length_append] at hj
  by_cases q : j < l.length
  · rw [List.getElem?_append_left q, h1 j q]
    congr 1
    revert hj
    unfold dgt wdg
    split
    · intro hj; exact (upd_ne (by show j ≠ l.length + 1 - 1; omega)).symm
    · split
      · intro hj; rw [upd_ne (by show j ≠ l.length + 2 - 2; omega), upd_ne (by show j ≠ l.length + 2 - 1; omega)]
      · intro hj; rw [upd_ne (by show j ≠ l.length + 3 - 3; omega), upd_ne (by show j ≠ l.length + 3 - 2; omega), upd_ne (by show j ≠ l.length + 3 - 1; omega)]
  · rw [List.getElem?_append_right (by omega)]
    obtain ⟨i, rfl⟩ : ∃ i, j = l.length + i := ⟨j - l.length, by omega⟩
    rw [Nat.add_sub_cancel_left]
    have hi : i < (dgt n).length := by omega
    clear hj q
    revert hi
    unfold dgt wdg
    split
    · intro hi
      have : i = 0 := by have : i < 1 := hi; omega
      subst this
      show some _ = some (upd a (l.length + 1 - 1) _ (l.length + 0))
      rw [show l.length + 0 = l.length + 1 - 1 by omega, upd_eq]
    · split
      · intro hi
        have hi : i < 2 := hi
        show ([nI (48 + n / 10), nI (48 + n % 10)] : List Int32)[i]? = some (upd (upd a (l.length + 2 - 1) _) (l.length + 2 - 2) _ (l.length + i))
        match i, hi with
        | 0, _ => rw [show l.length + 0 = l.length + 2 - 2 by omega, upd_eq]; rfl
        | 1, _ => rw [upd_ne (by omega), show l.length + 1 = l.length + 2 - 1 by omega, upd_eq]; rfl
      · intro hi
        have hi : i < 3 := hi
        show ([nI (48 + n / 100), nI (48 + n % 100 / 10), nI (48 + n % 10)] : List Int32)[i]? = some (upd (upd (upd a (l.length + 3 - 1) _) (l.length + 3 - 2) _) (l.length + 3 - 3) _ (l.length + i))
        match i, hi with
        | 0, _ => rw [show l.length + 0 = l.length + 3 - 3 by omega, upd_eq]; rfl
        | 1, _ => rw [upd_ne (by omega), show l.length + 1 = l.length + 3 - 2 by omega, upd_eq]; rfl
        | 2, _ => rw [upd_ne (by omega), upd_ne (by omega), show l.length + 2 = l.length + 3 - 1 by omega, upd_eq]; rfl
theorem dgt_len : (dgt n).length ≤ 3 := by
  unfold dgt
  split
  · exact Nat.le_of_ble_eq_true rfl
  · split <;> exact Nat.le_of_ble_eq_true rfl
theorem m141 (hs : isSB h o v l) (hd : old h) (hn : n < 1000) (hl : l.length ≤ 40000) : ∃ h' v', xe (ixP fv) (d + 3) 141 0 [some (.ref o), some (.int (nI n)), none, none] [] h = some (.inl (some (.ref o)), h') ∧ isSB h' o v' (l ++ dgt n) ∧ ((v' = v) ∨ (v' = h.length)) ∧ frm h h' o v ∧ h'.length ≤ h.length + 1 ∧ ix_sz h' ≤ ix_sz h + (2 * (l.length + 3) + 2) := by
  obtain ⟨cap, a, mb, eo, ev, h1, h2, h3, ho, hv⟩ := hs
  have hdl := dgt_len (n := n)
  obtain ⟨g, v', cap', a', er, go, gv, g1, g2, g3, g4, g5, g6, g7, g8⟩ := m138 (fv := fv) (d := d) eo ho ev (show l.length + (dgt n).length ≤ 100000 by omega) h2
  have hlv := lt_of ev
  have nvo : v ≠ o := fun e => by rw [e, eo] at ev; cases ev
  have hv' : 98 ≤ v' := g4.elim (fun e => by rw [e]; exact hv) (fun e => by rw [e]; exact Nat.le_trans hv (Nat.le_of_lt hlv))
  have nvo' : v' ≠ o := fun e => by rw [e, go] at gv; cases gv
  have hlo := lt_of go
  have hdg : old g := ⟨(g5 95 (by omega) (by omega)).trans hd.1, (g5 96 (by omega) (by omega)).trans hd.2⟩
  have er2 := fun d => m146 (fv := fv) (d := d) hdg gv hv' hn (e := l.length + (dgt n).length) (by omega) (by omega) (by omega)
  have go2 : (g.set v' (.inl (2, cap', .inl (wdg a' (l.length + (dgt n).length) n))))[o]? = _ := (List.getElem?_set_ne nvo').trans go
  refine ⟨(g.set v' (.inl (2, cap', .inl (wdg a' (l.length + (dgt n).length) n)))).set o (.inr (9, [.ref v', .int 0, mb, .int (nI (l ++ dgt n).length)])), v', ?_, ⟨cap', wdg a' (l.length + (dgt n).length) n, mb, ?_, ?_, ?_, by omega, bsl_dg (bsl_of h3 (fun j hj => g3 j (by omega))), ho, hv'⟩, g4, ⟨?_, ?_⟩, ?_, ?_⟩
  · have e1 : ∀ ty fin X, rF (ixP fv) h o (9, 3, ty, fin, X) = some (.int (nI l.length)) := fun ty fin X => rF_of eo ho rfl
    have e2 : ∀ ty fin X, rF (ixP fv) g o (9, 0, ty, fin, X) = some (.ref v') := fun ty fin X => rF_of go ho rfl
    have e3 : ∀ ty fin X, rF (ixP fv) g o (9, 1, ty, fin, X) = some (.int 0) := fun ty fin X => rF_of go ho rfl
    have e4 : ∀ ini X, wF (ixP fv) (g.set v' (.inl (2, cap', .inl (wdg a' (l.length + (dgt n).length) n)))) o (9, 3, .int, false, X) ini (.int (nI (l.length + (dgt n).length))) = some _ := fun ini X => wF_of go2 ho (by show 3 < 4; decide) rfl (Or.inl rfl)
    simp only [q141_0, q141_1, q141_4, q141_5, q141_6, q141_7, q141_10, q141_11, q141_12, q141_13, q141_14, q141_17, q141_18, q141_21, q141_24, q141_25, q141_26, q141_27, q141_30, q141_33, q141_34, q141_37, q141_38, q141_39, q141_40, q141_41, q141_47, q141_48, q141_49, q141_50, q141_53, q141_54 (st := []), q143_0, q143_3, q143_6, q143_7, q143_10, q143_13, q143_14, q143_17, q143_18 (st := []), i10, eq_self, ft0, ft1, b01_ft, k1r, k1i, xG_some, xH_some, xC_v, xC_n, if_true, if_false, not_true_eq_false, not_false_eq_true, ix_st, ix_st2, List.getElem?_cons_succ, List.getElem?_cons_zero, List.set_cons_succ, List.set_cons_zero, Value.category, List.map_cons, List.map_nil, List.sum_cons, List.sum_nil, Nat.reduceAdd, Nat.reduceLeDiff, Nat.reduceEqDiff, Nat.zero_le, reduceCtorEq, ↓reduceIte, eq_self, xit, k1r, k1i, isSb eo, isSb go, m147 hn, e1, nI_add, er, e2, e3, er2, e4, i10]
    rw [List.length_append]
  · rw [List.getElem?_set, if_pos rfl, if_pos (by rw [List.length_set]; exact hlo)]
  · rw [List.getElem?_set_ne (fun e => nvo' e.symm), List.getElem?_set, if_pos rfl, if_pos (lt_of gv)]
  · rw [List.length_append]; exact g1
  · rw [List.length_set, List.length_set]; exact g6
  · intro k hk ko kv
    rw [List.getElem?_set_ne (fun e => ko e.symm), List.getElem?_set_ne, g5 k hk ko]
    rcases g4 with rfl | rfl
    · exact fun e => kv e.symm
    · omega
  · rw [List.length_set, List.length_set]; exact g7
  · have z1 := ix_sz_set (g.set v' (.inl (2, cap', .inl (wdg a' (l.length + (dgt n).length) n)))) o _ (.inr (9, [.ref v', .int 0, mb, .int (nI (l ++ dgt n).length)])) go2 rfl
    have z2 := ix_sz_set g v' _ (.inl (2, cap', .inl (wdg a' (l.length + (dgt n).length) n))) gv rfl
    rw [z1, z2]; omega
theorem m158 (hs : isSB h o v l) (hd : old h) (hn : n < 1000) (hl : l.length ≤ 40000) : ∃ h' v', xe (ixP fv) (d + 4) 158 0 [some (.ref o), some (.int (nI n))] [] h = some (.inl (some (.ref o)), h') ∧ isSB h' o v' (l ++ dgt n) ∧ ((v' = v) ∨ (v' = h.length)) ∧ frm h h' o v ∧ h'.length ≤ h.length + 1 ∧ ix_sz h' ≤ ix_sz h + (2 * (l.length + 3) + 2) := by
  obtain ⟨h', v', e, r⟩ := m141 (fv := fv) (d := d) hs hd hn hl
  obtain ⟨cap, a, mb, eo, -⟩ := hs
  refine ⟨h', v', ?_, r⟩
  simp only [q158_0, q158_1, q158_2, q158_5, q158_6, q158_7 (st := []), i10, eq_self, ft0, ft1, b01_ft, k1r, k1i, xG_some, xH_some, xC_v, xC_n, if_true, if_false, not_true_eq_false, not_false_eq_true, ix_st, ix_st2, List.getElem?_cons_succ, List.getElem?_cons_zero, List.set_cons_succ, List.set_cons_zero, Value.category, List.map_cons, List.map_nil, List.sum_cons, List.sum_nil, Nat.reduceAdd, Nat.reduceLeDiff, Nat.reduceEqDiff, Nat.zero_le, reduceCtorEq, ↓reduceIte, eq_self, xit, k1r, isSb eo, e]
end STR2
