/-! THE START: the tape read as tokens (written by gen99999.py). -/
/-- tokens, each with the blanks ahead of it, from a place on -/
def tkAt (l : List Int32) (K : Nat → Int64) : Nat → List (List Int32 × List Int32) → Prop
  | p, [] => chr l p = -1
  | p, t :: T => (∀ j, j < t.1.length → isBl (chr l (p + j)) = true) ∧ atT l (p + t.1.length) t.2 ∧ lexOK t.2 = true ∧ sepOK t.2 (chr l (p + t.1.length + t.2.length)) = true ∧ (¬ lexK K t.2 = 0 ∧ ¬ lexK K t.2 = -1) ∧ tkAt l K (p + t.1.length + t.2.length) T
section LEX2
variable {fv : Value} {d : Nat} {h : ix_H} {r pl tp p n k i j m q : Nat} {N Q : Mem} {L : Jem} {T : Nat → Int32} {x v w : Int32} {l bs : List Int32} {z : Int64} {l5 : Option Value}
theorem ok_len (h : lexOK bs = true) : 0 < bs.length := by
  rcases bs with _ | ⟨x, bs⟩
  · exact absurd h (by decide)
  · exact Nat.succ_pos _
theorem all_get {P : Int32 → Bool} (h : bs.all P = true) (j : Nat) (x : Int32) (hx : bs[j]? = some x) : P x = true := List.all_eq_true.mp h x (List.mem_of_getElem? hx)
theorem hd_at (hb : atT l p bs) (h : 0 < bs.length) : chr l p = hd bs := by
  have := hb 0 h
  unfold hd
  rw [List.getD_eq_getElem?_getD, this]
  rfl
theorem wd_dg {y : Int32} (h : isWd y = false) : isDg y = false := by
  unfold isWd at h
  cases h1 : isDg y with
  | true => rw [h1, Bool.or_true] at h; cases h
  | false => rfl
/-- a token -/
theorem m80 (g : gR h r pl) (t : tpW h tp T l) (ht : tp + 2 ≤ r) (hb : atT l p bs) (hok : lexOK bs = true) (hs : sepOK bs (chr l (p + bs.length)) = true) (hp : p ≤ 1950) : xe (ixP fv) (d + 3) 80 0 [some (.ref (r + 1)), some (.ref (tp)), some (.int (nI p)), none] [] (wR h r pl N L Q) = some (.inl (some (.int (nI (p + bs.length)))), (wR h r pl (sm N 0 5 (lexK (L 1) bs)) (jm L 0 0 (lexV bs)) Q)) := by
  have hn := ok_len hok
  have h0 := hd_at hb hn
  have e1 := fun d => m76 (fv := fv) (d := d) (N := N) (L := L) (Q := Q) (i := p) g t ht (by omega)
  rw [h0] at e1
  have w5 := fun v Y ini => wTf5 (fv := fv) (N := N) (L := L) (Q := Q) (z := v) (X := Y) (ini := ini) g
  have e2 := fun d => m86 (fv := fv) (d := d) (x := hd bs) (H := (wR h r pl N (jm L 0 0 (0)) Q))
  have e3 := fun d => m87 (fv := fv) (d := d) (x := hd bs) (H := (wR h r pl N (jm L 0 0 (0)) Q))
  have isT := isRT (fv := fv) (N := N) (L := (jm L 0 0 (0))) (Q := Q) g
  have isP := isTpW (fv := fv) (N := N) (L := L) (Q := Q) g t ht
  unfold lexK lexV
  unfold lexOK at hok
  unfold sepOK at hs
  by_cases c1 : isLt (hd bs) = true
  · rw [if_pos c1] at hok ⊢
    rw [if_pos c1]
    rw [if_pos (Or.inl c1)] at hs
    obtain ⟨k1, k2⟩ := (Bool.and_eq_true _ _).mp hok
    have e4 := fun d => m81 (fv := fv) (d := d) (N := N) (L := L) (Q := Q) g t ht hb (of_decide_eq_true k1) hp (all_get k2) (by cases h : isWd (chr l (p + bs.length)) with
      | true => rw [h] at hs; cases hs
      | false => rfl)
    rw [c1] at e2
    simp only [b01_t] at e2
    simp only [q80_0, q80_1, q80_2, q80_5, q80_6, q80_7, q80_8, q80_11, q80_12, q80_15, q80_18, q80_19, q80_20, q80_21, q80_24 (st := []), i10, eq_self, ft0, ft1, b01_ft, k1r, k1i, xG_some, xH_some, xC_v, xC_n, if_true, if_false, not_true_eq_false, not_false_eq_true, ix_st, ix_st2, List.getElem?_cons_succ, List.getElem?_cons_zero, List.set_cons_succ, List.set_cons_zero, Value.category, List.map_cons, List.map_nil, List.sum_cons, List.sum_nil, Nat.reduceAdd, Nat.reduceLeDiff, Nat.reduceEqDiff, Nat.zero_le, reduceCtorEq, ↓reduceIte, eq_self, xit, e1, e2, w5, e4, isT, isP]
  rw [if_neg c1] at hok ⊢
  rw [if_neg c1]
  have c1' : isLt (hd bs) = false := by
    cases h : isLt (hd bs) with
    | true => exact absurd h c1
    | false => rfl
  rw [c1'] at e2
  simp only [b01_f] at e2
  by_cases c2 : isDg (hd bs) = true
  · rw [if_pos c2] at hok ⊢
    rw [if_pos c2]
    rw [if_pos (Or.inr c2)] at hs
    obtain ⟨k1, k2⟩ := (Bool.and_eq_true _ _).mp hok
    have e4 := fun d => m82 (fv := fv) (d := d) (N := N) (L := L) (Q := Q) g t ht hb (of_decide_eq_true k1) hp (all_get k2) (wd_dg (by cases h : isWd (chr l (p + bs.length)) with
      | true => rw [h] at hs; cases hs
      | false => rfl))
    rw [c2] at e3
    simp only [b01_t] at e3
    simp only [q80_0, q80_1, q80_2, q80_5, q80_6, q80_7, q80_8, q80_11, q80_12, q80_15, q80_18, q80_19, q80_20, q80_21, q80_24 (st := []), q80_25, q80_26, q80_29, q80_32, q80_33, q80_34, q80_35, q80_38 (st := []), i10, eq_self, ft0, ft1, b01_ft, k1r, k1i, xG_some, xH_some, xC_v, xC_n, if_true, if_false, not_true_eq_false, not_false_eq_true, ix_st, ix_st2, List.getElem?_cons_succ, List.getElem?_cons_zero, List.set_cons_succ, List.set_cons_zero, Value.category, List.map_cons, List.map_nil, List.sum_cons, List.sum_nil, Nat.reduceAdd, Nat.reduceLeDiff, Nat.reduceEqDiff, Nat.zero_le, reduceCtorEq, ↓reduceIte, eq_self, xit, e1, e2, e3, w5, e4, isT, isP]
  rw [if_neg c2] at hok ⊢
  rw [if_neg c2]
  rw [if_neg (fun q => q.elim c1 c2)] at hs
  have c2' : isDg (hd bs) = false := by
    cases h : isDg (hd bs) with
    | true => exact absurd h c2
    | false => rfl
  rw [c2'] at e3
  simp only [b01_f] at e3
  have a1 : nI p + 1 = nI (p + 1) := nI_add p 1
  have a2 : nI p + 2 = nI (p + 2) := nI_add p 2
  have e5 := fun d => m76 (fv := fv) (d := d) (N := N) (L := (jm L 0 0 (0))) (Q := Q) (i := p + 1) g t ht (by omega)
  have isP2 := isTpW (fv := fv) (N := N) (L := (jm L 0 0 (0))) (Q := Q) g t ht
  have w4 := fun v Y ini => wTf4 (fv := fv) (N := N) (L := (jm L 0 0 (0))) (Q := Q) (v := v) (X := Y) (ini := ini) g
  by_cases c3 : bs = [62, 61]
  · subst c3
    have h1 : chr l (p + 1) = 61 := (Option.some.inj (hb 1 (by decide))).symm
    rw [h1] at e5
    have hh : hd [62, 61] = 62 := rfl
    rw [hh] at e1 e2 e3
    have c6 : ¬ (62 : Int32) = 60 := by decide
    rw [if_pos (show ([62, 61] : List Int32).length = 2 from rfl)]
    simp only [q80_0, q80_1, q80_2, q80_5, q80_6, q80_7, q80_8, q80_11, q80_12, q80_15, q80_18, q80_19, q80_20, q80_21, q80_24 (st := []), q80_25, q80_26, q80_29, q80_32, q80_33, q80_34, q80_35, q80_38 (st := []), q80_39, q80_40, q80_42, q80_45, q80_46, q80_48, q80_51, q80_52, q80_53, q80_54, q80_55, q80_58, q80_60, q80_63, q80_64, q80_65, q80_67, q80_70, q80_73, q80_76, q80_79, q80_82, q80_83, q80_84, q80_85 (st := []), i10, eq_self, ft0, ft1, b01_ft, k1r, k1i, xG_some, xH_some, xC_v, xC_n, if_true, if_false, not_true_eq_false, not_false_eq_true, ix_st, ix_st2, List.getElem?_cons_succ, List.getElem?_cons_zero, List.set_cons_succ, List.set_cons_zero, Value.category, List.map_cons, List.map_nil, List.sum_cons, List.sum_nil, Nat.reduceAdd, Nat.reduceLeDiff, Nat.reduceEqDiff, Nat.zero_le, reduceCtorEq, ↓reduceIte, eq_self, xit, e1, e2, e3, w5, e5, a1, a2, c6, w4, isT, isP, isP2]
    rfl
  · rw [decide_eq_false c3, Bool.false_or] at hok
    obtain ⟨k1, k2⟩ := (Bool.and_eq_true _ _).mp hok
    have k1 := of_decide_eq_true k1
    rw [if_neg (show ¬ bs.length = 2 by omega), k1]
    have e6 := fun d => m89 (fv := fv) (d := d) (x := hd bs) (H := (wR h r pl N (jm L 0 0 (0)) Q))
    rw [k2] at e6
    simp only [b01_t] at e6
    have cm : ¬ hd bs = -1 := fun e => by rw [e] at k2; exact absurd k2 (by decide)
    by_cases c4 : hd bs = 60 ∨ hd bs = 62
    · rw [if_pos ⟨k1, c4⟩, k1] at hs
      have c5 := of_decide_eq_true hs
      rcases c4 with c4 | c4
      · rw [c4] at e1 e2 e3 e6 cm
        rw [c4]
        simp only [q80_0, q80_1, q80_2, q80_5, q80_6, q80_7, q80_8, q80_11, q80_12, q80_15, q80_18, q80_19, q80_20, q80_21, q80_24 (st := []), q80_25, q80_26, q80_29, q80_32, q80_33, q80_34, q80_35, q80_38 (st := []), q80_39, q80_40, q80_42, q80_45, q80_46, q80_48, q80_51, q80_52, q80_53, q80_54, q80_55, q80_58, q80_60, q80_63, q80_64, q80_65, q80_67, q80_70, q80_73, q80_76, q80_79, q80_82, q80_83, q80_84, q80_85 (st := []), q80_86, q80_87, q80_88, q80_89, q80_92, q80_93, q80_96, q80_97, q80_100, q80_103, q80_104, q80_107, q80_108, q80_111, q80_112, q80_113, q80_114 (st := []), i10, eq_self, ft0, ft1, b01_ft, k1r, k1i, xG_some, xH_some, xC_v, xC_n, if_true, if_false, not_true_eq_false, not_false_eq_true, ix_st, ix_st2, List.getElem?_cons_succ, List.getElem?_cons_zero, List.set_cons_succ, List.set_cons_zero, Value.category, List.map_cons, List.map_nil, List.sum_cons, List.sum_nil, Nat.reduceAdd, Nat.reduceLeDiff, Nat.reduceEqDiff, Nat.zero_le, reduceCtorEq, ↓reduceIte, eq_self, xit, e1, e2, e3, w5, e5, e6, a1, a2, c5, cm, w4, isT, isP, isP2]
      · rw [c4] at e1 e2 e3 e6 cm
        rw [c4]
        have c6 : ¬ (62 : Int32) = 60 := by decide
        simp only [q80_0, q80_1, q80_2, q80_5, q80_6, q80_7, q80_8, q80_11, q80_12, q80_15, q80_18, q80_19, q80_20, q80_21, q80_24 (st := []), q80_25, q80_26, q80_29, q80_32, q80_33, q80_34, q80_35, q80_38 (st := []), q80_39, q80_40, q80_42, q80_45, q80_46, q80_48, q80_51, q80_52, q80_53, q80_54, q80_55, q80_58, q80_60, q80_63, q80_64, q80_65, q80_67, q80_70, q80_73, q80_76, q80_79, q80_82, q80_83, q80_84, q80_85 (st := []), q80_86, q80_87, q80_88, q80_89, q80_92, q80_93, q80_96, q80_97, q80_100, q80_103, q80_104, q80_107, q80_108, q80_111, q80_112, q80_113, q80_114 (st := []), i10, eq_self, ft0, ft1, b01_ft, k1r, k1i, xG_some, xH_some, xC_v, xC_n, if_true, if_false, not_true_eq_false, not_false_eq_true, ix_st, ix_st2, List.getElem?_cons_succ, List.getElem?_cons_zero, List.set_cons_succ, List.set_cons_zero, Value.category, List.map_cons, List.map_nil, List.sum_cons, List.sum_nil, Nat.reduceAdd, Nat.reduceLeDiff, Nat.reduceEqDiff, Nat.zero_le, reduceCtorEq, ↓reduceIte, eq_self, xit, e1, e2, e3, w5, e5, e6, a1, a2, c5, c6, cm, w4, isT, isP, isP2]
    · have c5 : ¬ hd bs = 60 := fun e => c4 (Or.inl e)
      have c6 : ¬ hd bs = 62 := fun e => c4 (Or.inr e)
      simp only [q80_0, q80_1, q80_2, q80_5, q80_6, q80_7, q80_8, q80_11, q80_12, q80_15, q80_18, q80_19, q80_20, q80_21, q80_24 (st := []), q80_25, q80_26, q80_29, q80_32, q80_33, q80_34, q80_35, q80_38 (st := []), q80_39, q80_40, q80_42, q80_45, q80_46, q80_48, q80_51, q80_52, q80_53, q80_54, q80_55, q80_58, q80_60, q80_63, q80_64, q80_65, q80_67, q80_70, q80_73, q80_76, q80_79, q80_82, q80_83, q80_84, q80_85 (st := []), q80_86, q80_87, q80_88, q80_89, q80_92, q80_93, q80_96, q80_97, q80_100, q80_103, q80_104, q80_107, q80_108, q80_111, q80_112, q80_113, q80_114 (st := []), i10, eq_self, ft0, ft1, b01_ft, k1r, k1i, xG_some, xH_some, xC_v, xC_n, if_true, if_false, not_true_eq_false, not_false_eq_true, ix_st, ix_st2, List.getElem?_cons_succ, List.getElem?_cons_zero, List.set_cons_succ, List.set_cons_zero, Value.category, List.map_cons, List.map_nil, List.sum_cons, List.sum_nil, Nat.reduceAdd, Nat.reduceLeDiff, Nat.reduceEqDiff, Nat.zero_le, reduceCtorEq, ↓reduceIte, eq_self, xit, e1, e2, e3, w5, e6, a1, c5, c6, cm, w4, isT, isP]
/-- the end -/
theorem m80_e (g : gR h r pl) (t : tpW h tp T l) (ht : tp + 2 ≤ r) (he : chr l p = -1) (hp : p ≤ 1950) : xe (ixP fv) (d + 3) 80 0 [some (.ref (r + 1)), some (.ref (tp)), some (.int (nI p)), none] [] (wR h r pl N L Q) = some (.inl (some (.int (nI (p + 1)))), (wR h r pl (sm N 0 5 0) (jm L 0 0 (0)) Q)) := by
  have e1 := fun d => m76 (fv := fv) (d := d) (N := N) (L := L) (Q := Q) (i := p) g t ht (by omega)
  rw [he] at e1
  have w5 := fun v Y ini => wTf5 (fv := fv) (N := N) (L := L) (Q := Q) (z := v) (X := Y) (ini := ini) g
  have e2 : ∀ d, xe (ixP fv) d 86 0 [some (.int (-1))] [] (wR h r pl N (jm L 0 0 (0)) Q) = some (.inl (some (.int 0)), (wR h r pl N (jm L 0 0 (0)) Q)) := fun d => m86
  have e3 : ∀ d, xe (ixP fv) d 87 0 [some (.int (-1))] [] (wR h r pl N (jm L 0 0 (0)) Q) = some (.inl (some (.int 0)), (wR h r pl N (jm L 0 0 (0)) Q)) := fun d => m87
  have isP := isTpW (fv := fv) (N := N) (L := L) (Q := Q) g t ht
  have a1 : nI p + 1 = nI (p + 1) := nI_add p 1
  have w4 := fun v Y ini => wTf4 (fv := fv) (N := N) (L := (jm L 0 0 (0))) (Q := Q) (v := v) (X := Y) (ini := ini) g
  have c5 : ¬ (-1 : Int32) = 60 := by decide
  have c6 : ¬ (-1 : Int32) = 62 := by decide
  simp only [q80_0, q80_1, q80_2, q80_5, q80_6, q80_7, q80_8, q80_11, q80_12, q80_15, q80_18, q80_19, q80_20, q80_21, q80_24 (st := []), q80_25, q80_26, q80_29, q80_32, q80_33, q80_34, q80_35, q80_38 (st := []), q80_39, q80_40, q80_42, q80_45, q80_46, q80_48, q80_51, q80_52, q80_53, q80_54, q80_55, q80_58, q80_60, q80_63, q80_64, q80_65, q80_67, q80_70, q80_73, q80_76, q80_79, q80_82, q80_83, q80_84, q80_85 (st := []), q80_86, q80_87, q80_88, q80_89, q80_92, q80_93, q80_96, q80_97, q80_100, q80_103, q80_104, q80_107, q80_108, q80_111, q80_112, q80_113, q80_114 (st := []), i10, eq_self, ft0, ft1, b01_ft, k1r, k1i, xG_some, xH_some, xC_v, xC_n, if_true, if_false, not_true_eq_false, not_false_eq_true, ix_st, ix_st2, List.getElem?_cons_succ, List.getElem?_cons_zero, List.set_cons_succ, List.set_cons_zero, Value.category, List.map_cons, List.map_nil, List.sum_cons, List.sum_nil, Nat.reduceAdd, Nat.reduceLeDiff, Nat.reduceEqDiff, Nat.zero_le, reduceCtorEq, ↓reduceIte, eq_self, xit, e1, e2, e3, w5, a1, c5, c6, w4, isP]
end LEX2
