/-! THE START: scan (written by gen999991.py). -/
section LEX3
variable {fv : Value} {d : Nat} {h : ix_H} {r pl tp p n k i j m q : Nat} {N Q : Mem} {L : Jem} {T : Nat → Int32} {x v w : Int32} {l bs : List Int32} {z : Int64} {l5 : Option Value}
theorem sj_n {a m : Nat} (hi : i < m) (hm : m ≤ 50000000) : sj L a m (nI i) z = jm L a i z := by
  unfold sj
  rw [if_pos (in_big hi hm), nI_clamp (by omega)]
theorem scan_step (g : gR h r pl) (tw : tpW h tp T l) (ht : tp + 2 ≤ r) {t : List Int32 × List Int32} (h1 : ∀ j, j < t.1.length → isBl (chr l (p + j)) = true) (h2 : atT l (p + t.1.length) t.2) (h3 : lexOK t.2 = true) (h4 : sepOK t.2 (chr l (p + t.1.length + t.2.length)) = true) (h5 : ¬ lexK (L 1) t.2 = 0) (h6 : ¬ lexK (L 1) t.2 = -1) (hp : p + t.1.length + t.2.length ≤ 1950) (hi : i < 400) : xe (ixP fv) (d + 4) 78 7 [some (.ref (r + 1)), some (.ref (tp)), some (.int (nI p)), some (.int (1)), some (.int (nI i)), l5] [] (wR h r pl N L Q) = xe (ixP fv) (d + 4) 78 7 [some (.ref (r + 1)), some (.ref (tp)), some (.int (nI (p + t.1.length + t.2.length))), some (.int (1)), some (.int (nI (i + 1))), some (.int (nI (p + t.1.length + t.2.length)))] [] (wR h r pl (sm (sm (sm N 0 5 (lexK (L 1) t.2)) 1 (i) (lexK (L 1) t.2)) 2 (i) (nI (p + t.1.length))) (jm (jm L 0 0 (lexV t.2)) 2 (i) (lexV t.2)) Q) := by
  have hn := ok_len h3
  have hb : isBl (chr l (p + t.1.length)) = false := by
    rw [hd_at h2 hn]
    unfold lexOK at h3
    cases h : isBl (hd t.2) with
    | false => rfl
    | true =>
      unfold isBl at h
      rcases (Bool.or_eq_true _ _).mp h with h | h
      · rw [of_decide_eq_true h] at h3
        simp only [show isLt 32 = false by decide, show isDg 32 = false by decide, show isSy 32 = false by decide, Bool.false_eq_true, if_false, Bool.and_false, Bool.or_false] at h3
        have h7 := of_decide_eq_true h3
        rw [h7] at h
        exact absurd h (by decide)
      · rw [of_decide_eq_true h] at h3
        simp only [show isLt 10 = false by decide, show isDg 10 = false by decide, show isSy 10 = false by decide, Bool.false_eq_true, if_false, Bool.and_false, Bool.or_false] at h3
        have h7 := of_decide_eq_true h3
        rw [h7] at h
        exact absurd h (by decide)
  have e1 := fun d => m79 (fv := fv) (d := d) (N := N) (L := L) (Q := Q) (p := p) (m := t.1.length) g tw ht h1 hb (by omega)
  have e2 := fun d => m80 (fv := fv) (d := d) (N := N) (L := L) (Q := Q) g tw ht h2 h3 h4 (by omega)
  have isT := isRT (fv := fv) (N := N) (L := L) (Q := Q) g
  have c1 : ¬ (400 : Int32) < nI i := show ¬ nI 400 < nI i from nI_nlt (by omega) (by decide)
  have c2 : ¬ nI i = 400 := fun e => by
    have := (nI_eq (a := i) (b := 400) (by omega) (by decide)).mp e
    omega
  have c10 : ¬ (1 : Int32) = 0 := by decide
  have f4 := fun N L ty fin Y => rT4' (fv := fv) (N := N) (L := L) (Q := Q) (ty := ty) (fin := fin) (X := Y) g
  have f5 := fun N L ty fin Y => rT5' (fv := fv) (N := N) (L := L) (Q := Q) (ty := ty) (fin := fin) (X := Y) g
  have f1 := fun N L ty fin Y => rT1' (fv := fv) (N := N) (L := L) (Q := Q) (ty := ty) (fin := fin) (X := Y) g
  have f2 := fun N L ty fin Y => rT2' (fv := fv) (N := N) (L := L) (Q := Q) (ty := ty) (fin := fin) (X := Y) g
  have f3 := fun N L ty fin Y => rT3' (fv := fv) (N := N) (L := L) (Q := Q) (ty := ty) (fin := fin) (X := Y) g
  have p1 := fun N L d v => m117 (fv := fv) (d := d) (i := nI i) (v := v) (iR3 (N := N) (L := L) (Q := Q) g) (oR3 g)
  have p2 := fun N L d v => m117 (fv := fv) (d := d) (i := nI i) (v := v) (iR4 (N := N) (L := L) (Q := Q) g) (oR4 g)
  have p3 := fun N L d v => m118 (fv := fv) (d := d) (i := nI i) (v := v) (iR5 (N := N) (L := L) (Q := Q) g) (oR5 g)
  have u1 : ∀ N L v, pt (wR h r pl N L Q) (r + 3) (nI i) v = (wR h r pl (sm N 1 i v) L Q) := fun N L v => (pR3 g).trans (by rw [sp_n (by omega) (by decide)])
  have u2 : ∀ N L v, pt (wR h r pl N L Q) (r + 4) (nI i) v = (wR h r pl (sm N 2 i v) L Q) := fun N L v => (pR4 g).trans (by rw [sp_n (by omega) (by decide)])
  have u3 : ∀ N L z, ptJ (wR h r pl N L Q) (r + 5) (nI i) z = (wR h r pl N (jm L 2 i z) Q) := fun N L z => (pR5 g).trans (by rw [sj_n (by omega) (by decide)])
  have s5 : ∀ (N : Mem) v, sm N 0 5 v 0 5 = v := fun N v => by rw [sm_x, if_pos ⟨rfl, rfl⟩]
  have s51 : ∀ (N : Mem) v w, sm (sm N 0 5 v) 1 i w 0 5 = v := fun N v w => by rw [sm_ne (show 0 ≠ 1 by decide), s5]
  have s52 : ∀ (N : Mem) v w x, sm (sm (sm N 0 5 v) 1 i w) 2 i x 0 5 = v := fun N v w x => by rw [sm_ne (show 0 ≠ 2 by decide), s51]
  have j0 : ∀ (L : Jem) (z : Int64), jm L 0 0 z 0 0 = z := fun L z => jm_00
  have ei : nI i + 1 = nI (i + 1) := nI_add i 1
  simp only [q78_7 (x := nI i), q78_9, q78_12, q78_15, q78_16, q78_19, q78_20, q78_21, q78_22, q78_25, q78_26, q78_27, q78_28, q78_29, q78_32, q78_34, q78_36, q78_39, q78_42, q78_43, q78_46, q78_49, q78_50, q78_51, q78_54, q78_55, q78_58, q78_60, q78_61, q78_64, q78_67, q78_68, q78_71, q78_73, q78_74, q78_77, q78_78, q78_81, q78_83, q78_84, q78_87, q78_90, q78_92, q78_93, q78_94, q78_97, q78_100, q78_101, q78_104, q78_105, q78_108, q78_109, q78_112, q78_113, q78_114, q78_117, i10, eq_self, ft0, ft1, b01_ft, k1r, k1i, xG_some, xH_some, xC_v, xC_n, if_true, if_false, not_true_eq_false, not_false_eq_true, ix_st, ix_st2, List.getElem?_cons_succ, List.getElem?_cons_zero, List.set_cons_succ, List.set_cons_zero, Value.category, List.map_cons, List.map_nil, List.sum_cons, List.sum_nil, Nat.reduceAdd, Nat.reduceLeDiff, Nat.reduceEqDiff, Nat.zero_le, reduceCtorEq, ↓reduceIte, eq_self, xit, c1, c2, c10, e1, e2, isT, f1, f2, f3, f4, f5, p1, p2, p3, u1, u2, u3, s5, s51, s52, j0, h5, h6, ei]
theorem scan_end (g : gR h r pl) (tw : tpW h tp T l) (ht : tp + 2 ≤ r) (he : chr l p = -1) (hp : p ≤ 1950) (hi : i ≤ 400) : xe (ixP fv) (d + 4) 78 7 [some (.ref (r + 1)), some (.ref (tp)), some (.int (nI p)), some (.int (1)), some (.int (nI i)), l5] [] (wR h r pl N L Q) = some (.inl none, (wR h r pl (sm (sm (sm N 0 5 (0)) 1 (i) (0)) 2 (i) (nI (p))) (jm (jm L 0 0 (0)) 2 (i) (0)) Q)) := by
  have hb : isBl (chr l (p + 0)) = false := by
    rw [Nat.add_zero, he]
    decide
  have e1 := fun d => m79 (fv := fv) (d := d) (N := N) (L := L) (Q := Q) (p := p) (m := 0) g tw ht (fun j hj => absurd hj (Nat.not_lt_zero _)) hb (by omega)
  simp only [Nat.add_zero] at e1
  have e2 := fun d => m80_e (fv := fv) (d := d) (N := N) (L := L) (Q := Q) g tw ht he (by omega)
  have isT := isRT (fv := fv) (N := N) (L := L) (Q := Q) g
  have c1 : ¬ (400 : Int32) < nI i := show ¬ nI 400 < nI i from nI_nlt (by omega) (by decide)
  have c10 : ¬ (1 : Int32) = 0 := by decide
  have f4 := fun N L ty fin Y => rT4' (fv := fv) (N := N) (L := L) (Q := Q) (ty := ty) (fin := fin) (X := Y) g
  have f5 := fun N L ty fin Y => rT5' (fv := fv) (N := N) (L := L) (Q := Q) (ty := ty) (fin := fin) (X := Y) g
  have f1 := fun N L ty fin Y => rT1' (fv := fv) (N := N) (L := L) (Q := Q) (ty := ty) (fin := fin) (X := Y) g
  have f2 := fun N L ty fin Y => rT2' (fv := fv) (N := N) (L := L) (Q := Q) (ty := ty) (fin := fin) (X := Y) g
  have f3 := fun N L ty fin Y => rT3' (fv := fv) (N := N) (L := L) (Q := Q) (ty := ty) (fin := fin) (X := Y) g
  have p1 := fun N L d v => m117 (fv := fv) (d := d) (i := nI i) (v := v) (iR3 (N := N) (L := L) (Q := Q) g) (oR3 g)
  have p2 := fun N L d v => m117 (fv := fv) (d := d) (i := nI i) (v := v) (iR4 (N := N) (L := L) (Q := Q) g) (oR4 g)
  have p3 := fun N L d v => m118 (fv := fv) (d := d) (i := nI i) (v := v) (iR5 (N := N) (L := L) (Q := Q) g) (oR5 g)
  have u1 : ∀ N L v, pt (wR h r pl N L Q) (r + 3) (nI i) v = (wR h r pl (sm N 1 i v) L Q) := fun N L v => (pR3 g).trans (by rw [sp_n (by omega) (by decide)])
  have u2 : ∀ N L v, pt (wR h r pl N L Q) (r + 4) (nI i) v = (wR h r pl (sm N 2 i v) L Q) := fun N L v => (pR4 g).trans (by rw [sp_n (by omega) (by decide)])
  have u3 : ∀ N L z, ptJ (wR h r pl N L Q) (r + 5) (nI i) z = (wR h r pl N (jm L 2 i z) Q) := fun N L z => (pR5 g).trans (by rw [sj_n (by omega) (by decide)])
  have s5 : ∀ (N : Mem) v, sm N 0 5 v 0 5 = v := fun N v => by rw [sm_x, if_pos ⟨rfl, rfl⟩]
  have s51 : ∀ (N : Mem) v w, sm (sm N 0 5 v) 1 i w 0 5 = v := fun N v w => by rw [sm_ne (show 0 ≠ 1 by decide), s5]
  have s52 : ∀ (N : Mem) v w x, sm (sm (sm N 0 5 v) 1 i w) 2 i x 0 5 = v := fun N v w x => by rw [sm_ne (show 0 ≠ 2 by decide), s51]
  have j0 : ∀ (L : Jem) (z : Int64), jm L 0 0 z 0 0 = z := fun L z => jm_00
  have ei : nI i + 1 = nI (i + 1) := nI_add i 1
  have s2 : xe (ixP fv) (d + 4) 78 7 [some (.ref (r + 1)), some (.ref (tp)), some (.int (nI (p + 1))), some (.int (0)), some (.int (nI (i + 1))), some (.int (nI (p + 1)))] [] (wR h r pl (sm (sm (sm N 0 5 (0)) 1 (i) (0)) 2 (i) (nI (p))) (jm (jm L 0 0 (0)) 2 (i) (0)) Q) = some (.inl none, (wR h r pl (sm (sm (sm N 0 5 (0)) 1 (i) (0)) 2 (i) (nI (p))) (jm (jm L 0 0 (0)) 2 (i) (0)) Q)) := by
    by_cases c3 : (400 : Int32) < nI (i + 1)
    · simp only [q78_7 (x := nI (i + 1)), q78_9, q78_12, q78_120 (st := []), i10, eq_self, ft0, ft1, b01_ft, k1r, k1i, xG_some, xH_some, xC_v, xC_n, if_true, if_false, not_true_eq_false, not_false_eq_true, ix_st, ix_st2, List.getElem?_cons_succ, List.getElem?_cons_zero, List.set_cons_succ, List.set_cons_zero, Value.category, List.map_cons, List.map_nil, List.sum_cons, List.sum_nil, Nat.reduceAdd, Nat.reduceLeDiff, Nat.reduceEqDiff, Nat.zero_le, reduceCtorEq, ↓reduceIte, eq_self, xit, c3]
    · simp only [q78_7 (x := nI (i + 1)), q78_9, q78_12, q78_15, q78_16, q78_120 (st := []), i10, eq_self, ft0, ft1, b01_ft, k1r, k1i, xG_some, xH_some, xC_v, xC_n, if_true, if_false, not_true_eq_false, not_false_eq_true, ix_st, ix_st2, List.getElem?_cons_succ, List.getElem?_cons_zero, List.set_cons_succ, List.set_cons_zero, Value.category, List.map_cons, List.map_nil, List.sum_cons, List.sum_nil, Nat.reduceAdd, Nat.reduceLeDiff, Nat.reduceEqDiff, Nat.zero_le, reduceCtorEq, ↓reduceIte, eq_self, xit, c3]
  refine Eq.trans ?_ s2
  by_cases c2 : nI i = 400
  · have c2 := eq_true c2
    simp only [q78_7 (x := nI i), q78_9, q78_12, q78_15, q78_16, q78_19, q78_20, q78_21, q78_22, q78_25, q78_26, q78_27, q78_28, q78_29, q78_32, q78_34, q78_36, q78_39, q78_42, q78_43, q78_46, q78_49, q78_50, q78_51, q78_54, q78_55, q78_58, q78_60, q78_61, q78_64, q78_67, q78_68, q78_71, q78_73, q78_74, q78_77, q78_78, q78_81, q78_83, q78_84, q78_87, q78_90, q78_92, q78_93, q78_94, q78_97, q78_100, q78_101, q78_104, q78_105, q78_108, q78_109, q78_112, q78_113, q78_114, q78_117, i10, eq_self, ft0, ft1, b01_ft, k1r, k1i, xG_some, xH_some, xC_v, xC_n, if_true, if_false, not_true_eq_false, not_false_eq_true, ix_st, ix_st2, List.getElem?_cons_succ, List.getElem?_cons_zero, List.set_cons_succ, List.set_cons_zero, Value.category, List.map_cons, List.map_nil, List.sum_cons, List.sum_nil, Nat.reduceAdd, Nat.reduceLeDiff, Nat.reduceEqDiff, Nat.zero_le, reduceCtorEq, ↓reduceIte, eq_self, xit, c1, c2, c10, e1, e2, isT, f1, f2, f3, f4, f5, p1, p2, p3, u1, u2, u3, s5, s51, s52, j0, ei]
  · simp only [q78_7 (x := nI i), q78_9, q78_12, q78_15, q78_16, q78_19, q78_20, q78_21, q78_22, q78_25, q78_26, q78_27, q78_28, q78_29, q78_32, q78_34, q78_36, q78_39, q78_42, q78_43, q78_46, q78_49, q78_50, q78_51, q78_54, q78_55, q78_58, q78_60, q78_61, q78_64, q78_67, q78_68, q78_71, q78_73, q78_74, q78_77, q78_78, q78_81, q78_83, q78_84, q78_87, q78_90, q78_92, q78_93, q78_94, q78_97, q78_100, q78_101, q78_104, q78_105, q78_108, q78_109, q78_112, q78_113, q78_114, q78_117, i10, eq_self, ft0, ft1, b01_ft, k1r, k1i, xG_some, xH_some, xC_v, xC_n, if_true, if_false, not_true_eq_false, not_false_eq_true, ix_st, ix_st2, List.getElem?_cons_succ, List.getElem?_cons_zero, List.set_cons_succ, List.set_cons_zero, Value.category, List.map_cons, List.map_nil, List.sum_cons, List.sum_nil, Nat.reduceAdd, Nat.reduceLeDiff, Nat.reduceEqDiff, Nat.zero_le, reduceCtorEq, ↓reduceIte, eq_self, xit, c1, c2, c10, e1, e2, isT, f1, f2, f3, f4, f5, p1, p2, p3, u1, u2, u3, s5, s51, s52, j0, ei]
theorem tk_len {K : Nat → Int64} : ∀ (Ts : List (List Int32 × List Int32)) (p : Nat), tkAt l K p Ts → p ≤ l.length ∨ Ts = []
  | [], _, _ => Or.inr rfl
  | t :: Ts, p, ht => by
    obtain ⟨h1, h2, h3, h4, h5, h6⟩ := ht
    have hn := ok_len h3
    have hc := h2 0 hn
    refine Or.inl ?_
    by_cases c : p ≤ l.length
    · exact c
    · exfalso
      have : chr l (p + t.1.length + 0) = -1 := if_neg (by omega)
      rw [this] at hc
      unfold lexOK hd at h3
      rw [List.getD_eq_getElem?_getD, hc] at h3
      exact absurd h3 (by
        show ¬ (if isLt (-1) = true then _ else if isDg (-1) = true then _ else _) = true
        rw [if_neg (by decide), if_neg (by decide), show isSy ((some (-1) : Option Int32).getD 0) = false by decide, Bool.and_false, Bool.or_false]
        intro e
        have e := of_decide_eq_true e
        rw [e] at hc
        exact absurd hc (by decide))
/-- the tape's tokens stand in the reader -/
theorem scan_all (g : gR h r pl) (tw : tpW h tp T l) (ht : tp + 2 ≤ r) : ∀ (Ts : List (List Int32 × List Int32)) (p i : Nat) (N : Mem) (L : Jem) (l5 : Option Value), i + Ts.length ≤ 400 → p ≤ 1950 → tkAt l (L 1) p Ts → ∃ N' L', xe (ixP fv) (d + 4) 78 7 [some (.ref (r + 1)), some (.ref (tp)), some (.int (nI p)), some (.int (1)), some (.int (nI i)), l5] [] (wR h r pl N L Q) = some (.inl none, (wR h r pl N' L' Q)) ∧ L' 1 = L 1 ∧ (∀ q, q < i → N' 1 q = N 1 q ∧ L' 2 q = L 2 q) ∧ (∀ (j : Nat) (t : List Int32 × List Int32), Ts[j]? = some t → N' 1 (i + j) = lexK (L 1) t.2 ∧ L' 2 (i + j) = lexV t.2) ∧ N' 1 (i + Ts.length) = 0 ∧ (∀ k, k ≠ 5 → N' 0 k = N 0 k)
  | [], p, i, N, L, l5, hi, hp, ha => by
    refine ⟨_, _, scan_end g tw ht ha hp hi, rfl, fun q hq => ⟨?_, ?_⟩, fun j t hj => ?_, ?_, fun k hk => ?_⟩
    · rw [sm_ne (show 1 ≠ 2 by decide), sm_x, if_neg (by omega), sm_ne (show 1 ≠ 0 by decide)]
    · show vp_updL (L 2) i 0 q = _
      unfold vp_updL
      rw [if_neg (by omega)]
    · exact absurd hj (by simp)
    · rw [sm_ne (show 1 ≠ 2 by decide), sm_x, if_pos ⟨rfl, rfl⟩]
    · rw [sm_ne (show 0 ≠ 2 by decide), sm_ne (show 0 ≠ 1 by decide), sm_x, if_neg (fun e => hk e.2)]
  | t :: Ts, p, i, N, L, l5, hi, hp, ha => by
    obtain ⟨h1, h2, h3, h4, ⟨h5, h6⟩, h7⟩ := ha
    have hlen : (t :: Ts).length = Ts.length + 1 := rfl
    have hn := ok_len h3
    have hpl : p + t.1.length + t.2.length ≤ l.length := by
      have hc := h2 (t.2.length - 1) (by omega)
      by_cases c : p + t.1.length + (t.2.length - 1) < l.length
      · omega
      · exfalso
        have hm : chr l (p + t.1.length + (t.2.length - 1)) = -1 := if_neg c
        rw [hm] at hc
        unfold lexOK at h3
        split at h3
        · exact absurd (all_get ((Bool.and_eq_true _ _).mp h3).2 _ _ hc) (by decide)
        · split at h3
          · exact absurd (all_get ((Bool.and_eq_true _ _).mp h3).2 _ _ hc) (by decide)
          · rcases (Bool.or_eq_true _ _).mp h3 with h | h
            · have e := of_decide_eq_true h
              rw [e] at hc
              exact absurd hc (by decide)
            · obtain ⟨k1, k2⟩ := (Bool.and_eq_true _ _).mp h
              have k1 := of_decide_eq_true k1
              rw [k1] at hc
              have : hd t.2 = -1 := by
                unfold hd
                rw [List.getD_eq_getElem?_getD, hc]
                rfl
              rw [this] at k2
              exact absurd k2 (by decide)
    have hl := tw.2.2.2.2
    have e1 := scan_step (fv := fv) (d := d) (N := N) (L := L) (Q := Q) (l5 := l5) (i := i) g tw ht h1 h2 h3 h4 h5 h6 (by omega) (by omega)
    obtain ⟨N', L', e2, f1, f2, f3, f4, f5⟩ := scan_all g tw ht Ts (p + t.1.length + t.2.length) (i + 1) (sm (sm (sm N 0 5 (lexK (L 1) t.2)) 1 (i) (lexK (L 1) t.2)) 2 (i) (nI (p + t.1.length))) (jm (jm L 0 0 (lexV t.2)) 2 (i) (lexV t.2)) (some (.int (nI (p + t.1.length + t.2.length)))) (by omega) (by omega) h7
    refine ⟨N', L', e1.trans e2, f1, fun q hq => ?_, fun j t' hj => ?_, ?_, fun k hk => ?_⟩
    · obtain ⟨a1, a2⟩ := f2 q (by omega)
      refine ⟨a1.trans ?_, a2.trans ?_⟩
      · rw [sm_ne (show 1 ≠ 2 by decide), sm_x, if_neg (by omega), sm_ne (show 1 ≠ 0 by decide)]
      · show vp_updL (L 2) i _ q = _
        unfold vp_updL
        rw [if_neg (by omega)]
    · rcases j with _ | j
      · rw [List.getElem?_cons_zero] at hj
        have hj := Option.some.inj hj
        subst hj
        obtain ⟨a1, a2⟩ := f2 i (by omega)
        refine ⟨a1.trans ?_, a2.trans ?_⟩
        · rw [sm_ne (show 1 ≠ 2 by decide), sm_x, if_pos ⟨rfl, rfl⟩]
        · show vp_updL (L 2) i _ i = _
          unfold vp_updL
          rw [if_pos rfl]
      · rw [List.getElem?_cons_succ] at hj
        obtain ⟨a1, a2⟩ := f3 j t' hj
        rw [show i + (j + 1) = i + 1 + j by omega]
        exact ⟨a1, a2⟩
    · rw [hlen, show i + (Ts.length + 1) = i + 1 + Ts.length by omega]
      exact f4
    · rw [f5 k hk, sm_ne (show 0 ≠ 2 by decide), sm_ne (show 0 ≠ 1 by decide), sm_x, if_neg (fun e => hk e.2)]
theorem m78 (g : gR h r pl) (tw : tpW h tp T l) (ht : tp + 2 ≤ r) {Ts : List (List Int32 × List Int32)} (hi : Ts.length ≤ 400) (ha : tkAt l (L 1) 0 Ts) : ∃ N' L', xe (ixP fv) (d + 4) 78 0 [some (.ref (r + 1)), some (.ref (tp)), none, none, none, none] [] (wR h r pl N L Q) = some (.inl none, (wR h r pl N' L' Q)) ∧ L' 1 = L 1 ∧ (∀ (j : Nat) (t : List Int32 × List Int32), Ts[j]? = some t → N' 1 j = lexK (L 1) t.2 ∧ L' 2 j = lexV t.2) ∧ N' 1 Ts.length = 0 ∧ (∀ k, k ≠ 5 → N' 0 k = N 0 k) := by
  obtain ⟨N', L', e, f1, f2, f3, f4, f5⟩ := scan_all (fv := fv) (d := d) (Q := Q) g tw ht Ts 0 0 N L none (by omega) (by omega) ha
  refine ⟨N', L', Eq.trans ?_ e, f1, fun j t hj => ?_, ?_, f5⟩
  · simp only [q78_0, q78_1, q78_2, q78_3, q78_4, q78_5, i10, eq_self, ft0, ft1, b01_ft, k1r, k1i, xG_some, xH_some, xC_v, xC_n, if_true, if_false, not_true_eq_false, not_false_eq_true, ix_st, ix_st2, List.getElem?_cons_succ, List.getElem?_cons_zero, List.set_cons_succ, List.set_cons_zero, Value.category, List.map_cons, List.map_nil, List.sum_cons, List.sum_nil, Nat.reduceAdd, Nat.reduceLeDiff, Nat.reduceEqDiff, Nat.zero_le, reduceCtorEq, ↓reduceIte, eq_self, xit]
    rfl
  · have := f3 j t hj
    rw [Nat.zero_add] at this
    exact this
  · rw [Nat.zero_add] at f4
    exact f4
end LEX3
