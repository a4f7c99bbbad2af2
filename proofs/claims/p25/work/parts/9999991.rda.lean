/-! THE READER: the whole list read (written by gen9999991.py). -/
section RDA
variable {fv : Value} {d : Nat} {h : ix_H} {r pl tp q k i m s : Nat} {N Q Q0 : Mem} {L L0 : Jem} {ce : Nat → Int32} {T : Nat → Int32}
/-- all lines -/
theorem lp_all (g : gQ h r pl N) (p : PI ce L0 0 0 0 0 Q L) (hT : Tat N L0 0 (toks (IT ce))) (h0 : TK N (toks (IT ce)).length = 0) : ∃ Q0 s Q' L', PI ce L0 (n1 ce) (n3 ce) (n4 ce) (n5 ce) Q0 L' ∧ PO ce Q0 (n6 ce) s Q' ∧ xe (ixP fv) (d + 22) 44 50 [some (.ref r), some (.ref tp), some (.int 0)] [] (wq h r pl N L 0 Q) = some (.inl (some (.int 0)), wq h r pl N L' (toks (IT ce)).length Q') := by
  have h1 := n1_b (ce := ce)
  have h3 := n3_b (ce := ce)
  have h4 := n4_b (ce := ce)
  have h5 := n5_b (ce := ce)
  have h6 := n6_b (ce := ce)
  have et : toks (IT ce) = cat (fun k => toks (i1 ce k)) 0 (n1 ce) ++ (cat (fun k => toks (i3 ce k)) 0 (n3 ce) ++ (cat (fun k => toks (i4 ce k)) 0 (n4 ce) ++ (cat (fun k => toks (i5 ce k)) 0 (n5 ce) ++ cat (fun k => toks (i6 ce k)) 0 (n6 ce)))) := by
    unfold IT
    rw [toks_app, toks_app, toks_app, toks_app, toks_cat, toks_cat, toks_cat, toks_cat, toks_cat]
  rw [et] at hT h0 ⊢
  obtain ⟨t1, t2⟩ := Tat_app.mp hT
  obtain ⟨t2, t3⟩ := Tat_app.mp t2
  obtain ⟨t3, t4⟩ := Tat_app.mp t3
  obtain ⟨t4, t5⟩ := Tat_app.mp t4
  obtain ⟨Q1, L1, p1, e1⟩ := lp_B (fv := fv) (d := d) (tp := tp) g (n1 ce) 0 0 0 Q L (Nat.zero_add _) p t1 (by omega)
  obtain ⟨Q2, L2, p2, e2⟩ := lp_C (fv := fv) (d := d) (tp := tp) g (n3 ce) 0 _ (0 + n1 ce) Q1 L1 (Nat.zero_add _) p1 t2 (by omega)
  obtain ⟨Q3, L3, p3, e3⟩ := lp_K (fv := fv) (d := d) (tp := tp) g (n4 ce) 0 _ (0 + n1 ce + n3 ce) Q2 L2 (Nat.zero_add _) p2 t3 (by omega)
  obtain ⟨Q4, L4, p4, e4⟩ := lp_F (fv := fv) (d := d) (tp := tp) g (n5 ce) 0 _ (0 + n1 ce + n3 ce + n4 ce) Q3 L3 (Nat.zero_add _) p3 t4 (by omega)
  have po : PO ce Q4 0 0 Q4 := ⟨fun i _ _ => rfl, fun b _ _ => rfl, p4.1.2.2.2.2.2.1, p4.1.2.2.2.2.2.2, Nat.zero_le _, fun j hj => absurd hj (Nat.not_lt_zero _)⟩
  obtain ⟨Q5, s, p5, e5⟩ := lp_6 (fv := fv) (d := d) (tp := tp) g p4 (n6 ce) 0 _ (0 + n1 ce + n3 ce + n4 ce + n5 ce) 0 Q4 (Nat.zero_add _) po t5 (by omega)
  refine ⟨Q4, s, Q5, L4, p4, p5, ?_⟩
  have ln : (cat (fun k => toks (i1 ce k)) 0 (n1 ce) ++ (cat (fun k => toks (i3 ce k)) 0 (n3 ce) ++ (cat (fun k => toks (i4 ce k)) 0 (n4 ce) ++ (cat (fun k => toks (i5 ce k)) 0 (n5 ce) ++ cat (fun k => toks (i6 ce k)) 0 (n6 ce))))).length = 0 + (cat (fun k => toks (i1 ce k)) 0 (n1 ce)).length + (cat (fun k => toks (i3 ce k)) 0 (n3 ce)).length + (cat (fun k => toks (i4 ce k)) 0 (n4 ce)).length + (cat (fun k => toks (i5 ce k)) 0 (n5 ce)).length + (cat (fun k => toks (i6 ce k)) 0 (n6 ce)).length := by
    rw [List.length_append, List.length_append, List.length_append, List.length_append]
    omega
  rw [ln] at h0 ⊢
  have e6 := r44_end (fv := fv) (d := d + 22) (L := L4) (Q := Q5) (l1 := some (.ref tp)) g h0 (show 0 + n1 ce + n3 ce + n4 ce + n5 ce + n6 ce < 400 by omega)
  exact e1.trans (e2.trans (e3.trans (e4.trans (e5.trans e6))))
theorem PI_0 : PI ce L 0 0 0 0 (clQ Q) L := by
  have e : ∀ j, j ≤ 6 → clQ Q 0 j = 0 := fun j hj => by
    unfold clQ
    simp only [sm_x]
    by_cases c6 : j = 6
    · simp [c6]
    by_cases c5 : j = 5
    · simp [c5]
    by_cases c4 : j = 4
    · simp [c4]
    by_cases c3 : j = 3
    · simp [c3]
    by_cases c2 : j = 2
    · simp [c2]
    by_cases c1 : j = 1
    · simp [c1]
    by_cases c0 : j = 0
    · simp [c0]
    omega
  exact ⟨⟨e 0 (by decide), e 1 (by decide), e 2 (by decide), e 3 (by decide), e 4 (by decide), e 5 (by decide), e 6 (by decide)⟩, fun j hj => absurd hj (Nat.not_lt_zero _), fun j hj => absurd hj (Nat.not_lt_zero _), fun j hj => absurd hj (Nat.not_lt_zero _), fun j hj => absurd hj (Nat.not_lt_zero _), rfl, fun j hj => absurd hj (Nat.not_lt_zero _), fun j hj => absurd hj (Nat.not_lt_zero _), fun j hj => absurd hj (Nat.not_lt_zero _), fun j hj => absurd hj (Nat.not_lt_zero _)⟩
/-- the list is read without an error -/
theorem m44 (g : gR h r pl) (tw : tpW h tp T (TXT ce)) (ht : tp + 2 ≤ r) (hL : L 1 = KW) : ∃ N' L' Q0 s Q', PI ce L' (n1 ce) (n3 ce) (n4 ce) (n5 ce) Q0 L' ∧ PO ce Q0 (n6 ce) s Q' ∧ N' 0 2 = 0 ∧ N' 0 3 = 0 ∧ xe (ixP fv) (d + 22) 44 0 [some (.ref r), some (.ref tp), none] [] (wR h r pl N L Q) = some (.inl (some (.int 0)), wR h r pl N' L' Q') := by
  obtain ⟨ha, tk, lm, ll⟩ := TXT_tk (ce := ce)
  rw [← hL] at tk
  obtain ⟨N1, L1, e78, f1, f2, f3, f4⟩ := m78 (fv := fv) (d := d + 17) (N := N) (Q := clQ Q) g tw ht ll tk
  have hlen : (led [] (IT ce)).length = (toks (IT ce)).length := by rw [← lm, List.length_map]
  have z2 : sm (sm N1 0 2 0) 0 3 0 0 2 = 0 := by rw [sm_x, sm_x]; simp
  have z3 : sm (sm N1 0 2 0) 0 3 0 0 3 = 0 := by rw [sm_x]; simp
  have zn : ∀ q, TK (sm (sm N1 0 2 0) 0 3 0) q = TK N1 q := fun q => rfl
  have g2 : gQ h r pl (sm (sm N1 0 2 0) 0 3 0) := ⟨g, z2, z3⟩
  have hT : Tat (sm (sm N1 0 2 0) 0 3 0) L1 0 (toks (IT ce)) := fun j t hj => by
    rw [← lm, List.getElem?_map] at hj
    rcases hx : (led [] (IT ce))[j]? with _ | x
    · rw [hx] at hj
      cases hj
    · rw [hx] at hj
      have hj : x.2 = t := Option.some.inj hj
      have hlt := (List.getElem?_eq_some_iff.mp hx).1
      obtain ⟨y1, y2⟩ := f2 j x hx
      rw [Nat.zero_add, zn]
      rw [hL, hj] at y1
      rw [hj] at y2
      unfold TK TV ca cj
      rw [if_pos (in_big (show j < 401 by omega) (by decide)), if_pos (in_big (show j < 401 by omega) (by decide)), nI_clamp (by omega)]
      exact ⟨y1, y2⟩
  have h0 : TK (sm (sm N1 0 2 0) 0 3 0) (toks (IT ce)).length = 0 := by
    rw [zn, ← hlen]
    unfold TK ca
    rw [if_pos (in_big (show (led [] (IT ce)).length < 401 by omega) (by decide)), nI_clamp (by omega)]
    exact f3
  obtain ⟨Q0, s, Q', L', p1, p2, e2⟩ := lp_all (fv := fv) (d := d) (tp := tp) (Q := clQ Q) (L := L1) (L0 := L1) g2 PI_0 hT h0
  have p1' : PI ce L' (n1 ce) (n3 ce) (n4 ce) (n5 ce) Q0 L' := ⟨p1.1, p1.2.1, p1.2.2.1, p1.2.2.2.1, p1.2.2.2.2.1, rfl, p1.2.2.2.2.2.2⟩
  refine ⟨rst (sm (sm N1 0 2 0) 0 3 0) (toks (IT ce)).length, L', Q0, s, Q', p1', p2, rst_02.trans z2, rst_03.trans z3, Eq.trans ?_ e2⟩
  have e1 : ∀ d N' Q, xe (ixP fv) d 115 0 [some (.ref (r + 3)), some (.int 0)] [] (wR h r pl N' L1 Q) = some (.inl (some (.int (ca 401 (N' 1) 0))), wR h r pl N' L1 Q) := fun d N' Q => (m115 (iR3 g)).trans (by rw [cR3 g])
  have e78' : xe (ixP fv) (d + 21) 78 0 [some (.ref (r + 1)), some (.ref tp), none, none, none, none] [] (wR h r pl N L (clQ Q)) = some (.inl none, wR h r pl N1 L1 (clQ Q)) := e78
  have ew : sm (sm (sm (sm N1 0 0 0) 0 1 (ca 401 (N1 1) 0)) 0 2 0) 0 3 0 = rst (sm (sm N1 0 2 0) 0 3 0) 0 := by
    have et : TK (sm (sm N1 0 2 0) 0 3 0) 0 = ca 401 (N1 1) 0 := rfl
    unfold rst
    rw [et]
    generalize ca 401 (N1 1) 0 = z
    funext b j
    simp only [sm_x]
    by_cases c : b = 0
    · by_cases j3 : j = 3
      · simp [c, j3]
      by_cases j2 : j = 2
      · simp [c, j2]
      by_cases j1 : j = 1
      · simp [c, j1]
      by_cases j0 : j = 0
      · simp [c, j0]; rfl
      simp [j0, j1, j2, j3]
    · simp [c]
  have c1 : sm N1 0 0 0 1 = N1 1 := sm_ne (by decide)
  have r1 : ∀ v, sm N1 0 0 v 0 0 = v := fun v => by rw [sm_eq, upd_eq]
  have eF : wR h r pl (sm (sm (sm (sm N1 0 0 0) 0 1 (ca 401 (N1 1) 0)) 0 2 0) 0 3 0) L1 (clQ Q) = wq h r pl (sm (sm N1 0 2 0) 0 3 0) L1 0 (clQ Q) := by rw [ew]; rfl
  have f0 : ix_ft .boolean (.int 0) = true := by decide
  rw [← eF]
  simp only [q44_0, q44_1, q44_4, q44_7, q44_8, q44_11, q44_12, q44_15, q44_16, q44_17, q44_20, q44_21, q44_22, q44_25, q44_28, q44_29, q44_32, q44_35, q44_38, q44_39, q44_40, q44_43, q44_44, q44_45, q44_48, q44_49, i10, eq_self, ft0, ft1, b01_ft, k1r, k1i, xG_some, xH_some, xC_v, xC_n, if_true, if_false, not_true_eq_false, not_false_eq_true, ix_st, ix_st2, List.getElem?_cons_succ, List.getElem?_cons_zero, List.set_cons_succ, List.set_cons_zero, Value.category, List.map_cons, List.map_nil, List.sum_cons, List.sum_nil, Nat.reduceAdd, Nat.reduceLeDiff, Nat.reduceEqDiff, Nat.zero_le, reduceCtorEq, ↓reduceIte, eq_self, Bool.not_eq_true, Bool.true_eq_false, Bool.false_eq_true, not_true, not_false_eq_true, isRP g, isRT g, rR5 g, n37 g, rR0 g, e78', wRf6 g, rT1' g, rR6 g, r1, e1, c1, wRf7 g, wRf8 g f0, wRf9 g]
end RDA
