/-! THE LOOP over the lines (written by gen999998.py). -/
section RD8
variable {fv : Value} {d : Nat} {h : ix_H} {r pl tp q k i m k1 k3 k4 k5 : Nat} {N Q : Mem} {L L0 : Jem} {ce : Nat → Int32} {T : List (List Int32)}
theorem Tat_L (e : L 2 = L0 2) (h : Tat N L0 q T) : Tat N L q T := fun j t hj => by
  have := h j t hj
  unfold TV at this ⊢
  rw [e]
  exact this
theorem ln_B (g : gQ h r pl N) (p : PI ce L0 k 0 0 0 Q L) (hk : k < 4) (hT : Tat N L0 q (toks (i1 ce k))) (hi : i < 400) : ∃ Q' L', PI ce L0 (k + 1) 0 0 0 Q' L' ∧ xe (ixP fv) (d + 22) 44 50 [some (.ref r), some (.ref tp), some (.int (nI i))] [] (wq h r pl N L q Q) = xe (ixP fv) (d + 22) 44 50 [some (.ref r), some (.ref tp), some (.int (nI (i + 1)))] [] (wq h r pl N L' (q + 7) Q') := by
  have b1 := pB_b (ce := ce) (b := k)
  have b2 := tB_b (ce := ce) (b := k)
  have hT := Tat_L p.2.2.2.2.2.1 hT
  have T0 : TK N q = 1 := (hT 0 _ rfl).1.trans kk1.2.2
  have T1 : TK N (q + 1) = 97 := (hT 1 _ rfl).1.trans (kn98 k (by omega)).2.2
  have T2 : TK N (q + 2) = 2 := (hT 2 _ rfl).1.trans kk2.2.2
  have T3 : TK N (q + 3) = 48 := (hT 3 _ rfl).1.trans (kd3 (pB ce k) (by omega)).2.2
  have V3 : (TV L (q + 3)).toInt32 = nI (pB ce k) := (congrArg Int64.toInt32 (hT 3 _ rfl).2).trans (kd (pB ce k) (by omega)).2.2.2.1
  have T4 : TK N (q + 4) = 3 := (hT 4 _ rfl).1.trans kk3.2.2
  have T5 : TK N (q + 5) = 48 := (hT 5 _ rfl).1.trans (kd3 (tB ce k) (by omega)).2.2
  have V5 : (TV L (q + 5)).toInt32 = nI (tB ce k) := (congrArg Int64.toInt32 (hT 5 _ rfl).2).trans (kd (tB ce k) (by omega)).2.2.2.1
  have T6 : TK N (q + 6) = 59 := (hT 6 _ rfl).1.trans ks59.2.2
  have V1 : TV L (q + 1) = lexV (98 :: dgt k) := (hT 1 _ rfl).2
  have hf := fn98 p.2.2.2.2.2.2.1 (show k < 10 by omega)
  refine ⟨_, _, PI_B p hk, ?_⟩
  have e := rb (fv := fv) (d := d + 18) g p.1.1 (show k < 5 by omega) T0 T1 (by rw [V1]; exact hf) T2 T3 V3 (nI_nlt (by omega) (by omega) : ¬ nI (pB ce k) < nI 1) (nI_le (by omega) (by decide) : nI (pB ce k) ≤ nI 8) T4 T5 V5 (nI_nlt (by omega) (by omega) : ¬ nI (tB ce k) < nI 1) (nI_le (by omega) (by decide) : nI (tB ce k) ≤ nI 9)
  rw [V1] at e
  exact r44_b (d := d + 18) g T0 hi e T6
theorem ln_C (g : gQ h r pl N) (p : PI ce L0 (n1 ce) k 0 0 Q L) (hk : k < 4) (hT : Tat N L0 q (toks (i3 ce k))) (hi : i < 400) : ∃ Q' L', PI ce L0 (n1 ce) (k + 1) 0 0 Q' L' ∧ xe (ixP fv) (d + 22) 44 50 [some (.ref r), some (.ref tp), some (.int (nI i))] [] (wq h r pl N L q Q) = xe (ixP fv) (d + 22) 44 50 [some (.ref r), some (.ref tp), some (.int (nI (i + 1)))] [] (wq h r pl N L' (q + 11) Q') := by
  have b0 := n2_b (ce := ce)
  have b1 := blw_lt (x := sC ce k) (m := n2 ce) (by omega)
  have b2 := blw_lt (x := sC ce k >>> (2 &&& 31)) (m := 30) (by decide)
  have b3 := blw_lt (x := sC ce k >>> (4 &&& 31)) (m := 12) (by decide)
  have b4 := blw_lt (x := sC ce k >>> (6 &&& 31)) (m := 10) (by decide)
  have hT := Tat_L p.2.2.2.2.2.1 hT
  have T0 : TK N q = 4 := (hT 0 _ rfl).1.trans kk4.2.2
  have T1 : TK N (q + 1) = 97 := (hT 1 _ rfl).1.trans (kn107 k (by omega)).2.2
  have T2 : TK N (q + 2) = 5 := (hT 2 _ rfl).1.trans kk5.2.2
  have T3 : TK N (q + 3) = 48 := (hT 3 _ rfl).1.trans (kd3 (blw (sC ce k) (n2 ce)) (by omega)).2.2
  have V3 : (TV L (q + 3)).toInt32 = nI (blw (sC ce k) (n2 ce)) := (congrArg Int64.toInt32 (hT 3 _ rfl).2).trans (kd (blw (sC ce k) (n2 ce)) (by omega)).2.2.2.1
  have T4 : TK N (q + 4) = 6 := (hT 4 _ rfl).1.trans kk6.2.2
  have T5 : TK N (q + 5) = 48 := (hT 5 _ rfl).1.trans (kd3 (1 + blw (sC ce k >>> (2 &&& 31)) 30) (by omega)).2.2
  have V5 : (TV L (q + 5)).toInt32 = nI (1 + blw (sC ce k >>> (2 &&& 31)) 30) := (congrArg Int64.toInt32 (hT 5 _ rfl).2).trans (kd (1 + blw (sC ce k >>> (2 &&& 31)) 30) (by omega)).2.2.2.1
  have T6 : TK N (q + 6) = 7 := (hT 6 _ rfl).1.trans kk7.2.2
  have T7 : TK N (q + 7) = 48 := (hT 7 _ rfl).1.trans (kd3 (1 + blw (sC ce k >>> (4 &&& 31)) 12) (by omega)).2.2
  have V7 : (TV L (q + 7)).toInt32 = nI (1 + blw (sC ce k >>> (4 &&& 31)) 12) := (congrArg Int64.toInt32 (hT 7 _ rfl).2).trans (kd (1 + blw (sC ce k >>> (4 &&& 31)) 12) (by omega)).2.2.2.1
  have T8 : TK N (q + 8) = 8 := (hT 8 _ rfl).1.trans kk8.2.2
  have T9 : TK N (q + 9) = 48 := (hT 9 _ rfl).1.trans (kd3 (blw (sC ce k >>> (6 &&& 31)) 10) (by omega)).2.2
  have V9 : (TV L (q + 9)).toInt32 = nI (blw (sC ce k >>> (6 &&& 31)) 10) := (congrArg Int64.toInt32 (hT 9 _ rfl).2).trans (kd (blw (sC ce k >>> (6 &&& 31)) 10) (by omega)).2.2.2.1
  have T10 : TK N (q + 10) = 59 := (hT 10 _ rfl).1.trans ks59.2.2
  have V1 : TV L (q + 1) = lexV (107 :: dgt k) := (hT 1 _ rfl).2
  have hf := fn107 p.2.2.2.2.2.2.2.1 (show k < 10 by omega)
  have hP : nI (blw (sC ce k) (n2 ce)) ≤ Q 0 1 - 1 := by
    have hu : nI (n2 ce) - 1 = nI (n2 ce - 1) := by
      have := nI_pred (n2 ce - 1)
      rw [show n2 ce - 1 + 1 = n2 ce by omega] at this
      exact this
    rw [show Q 0 1 = nI (n2 ce) from p.1.2.1, hu]
    exact nI_le (by omega) (by omega)
  refine ⟨_, _, PI_C p hk, ?_⟩
  have e := rc (fv := fv) (d := d + 18) g p.1.2.2.1 (show k < 4 by omega) T0 T1 (by rw [V1]; exact hf) T2 T3 V3 (nI_nlt (by omega) (by omega) : ¬ nI (blw (sC ce k) (n2 ce)) < nI 0) hP T4 T5 V5 (nI_nlt (by omega) (by omega) : ¬ nI (1 + blw (sC ce k >>> (2 &&& 31)) 30) < nI 1) (nI_le (by omega) (by decide) : nI (1 + blw (sC ce k >>> (2 &&& 31)) 30) ≤ nI 30) T6 T7 V7 (nI_nlt (by omega) (by omega) : ¬ nI (1 + blw (sC ce k >>> (4 &&& 31)) 12) < nI 1) (nI_le (by omega) (by decide) : nI (1 + blw (sC ce k >>> (4 &&& 31)) 12) ≤ nI 12) T8 T9 V9 (nI_nlt (by omega) (by omega) : ¬ nI (blw (sC ce k >>> (6 &&& 31)) 10) < nI 0) (nI_le (by omega) (by decide) : nI (blw (sC ce k >>> (6 &&& 31)) 10) ≤ nI 9)
  rw [V1] at e
  exact r44_c (d := d + 18) g T0 hi e T10
theorem ln_K (g : gQ h r pl N) (p : PI ce L0 (n1 ce) (n3 ce) k 0 Q L) (hk : k < 3) (hT : Tat N L0 q (toks (i4 ce k))) (hi : i < 400) : ∃ Q' L', PI ce L0 (n1 ce) (n3 ce) (k + 1) 0 Q' L' ∧ xe (ixP fv) (d + 22) 44 50 [some (.ref r), some (.ref tp), some (.int (nI i))] [] (wq h r pl N L q Q) = xe (ixP fv) (d + 22) 44 50 [some (.ref r), some (.ref tp), some (.int (nI (i + 1)))] [] (wq h r pl N L' (q + 9) Q') := by
  have b0 := n2_b (ce := ce)
  have b1 := blw_lt (x := sR ce k) (m := n2 ce) (by omega)
  have b2 := blw_lt (x := sR ce k >>> (3 &&& 31)) (m := 9) (by decide)
  have b3 := blw_lt (x := sR ce k >>> (5 &&& 31)) (m := 60) (by decide)
  have hT := Tat_L p.2.2.2.2.2.1 hT
  have T0 : TK N q = 9 := (hT 0 _ rfl).1.trans kk9.2.2
  have T1 : TK N (q + 1) = 97 := (hT 1 _ rfl).1.trans (kn99 k (by omega)).2.2
  have T2 : TK N (q + 2) = 5 := (hT 2 _ rfl).1.trans kk5.2.2
  have T3 : TK N (q + 3) = 48 := (hT 3 _ rfl).1.trans (kd3 (blw (sR ce k) (n2 ce)) (by omega)).2.2
  have V3 : (TV L (q + 3)).toInt32 = nI (blw (sR ce k) (n2 ce)) := (congrArg Int64.toInt32 (hT 3 _ rfl).2).trans (kd (blw (sR ce k) (n2 ce)) (by omega)).2.2.2.1
  have T4 : TK N (q + 4) = 10 := (hT 4 _ rfl).1.trans kk10.2.2
  have T5 : TK N (q + 5) = 48 := (hT 5 _ rfl).1.trans (kd3 (1 + blw (sR ce k >>> (3 &&& 31)) 9) (by omega)).2.2
  have V5 : (TV L (q + 5)).toInt32 = nI (1 + blw (sR ce k >>> (3 &&& 31)) 9) := (congrArg Int64.toInt32 (hT 5 _ rfl).2).trans (kd (1 + blw (sR ce k >>> (3 &&& 31)) 9) (by omega)).2.2.2.1
  have T6 : TK N (q + 6) = 11 := (hT 6 _ rfl).1.trans kk11.2.2
  have T7 : TK N (q + 7) = 48 := (hT 7 _ rfl).1.trans (kd3 (1 + blw (sR ce k >>> (5 &&& 31)) 60) (by omega)).2.2
  have V7 : (TV L (q + 7)).toInt32 = nI (1 + blw (sR ce k >>> (5 &&& 31)) 60) := (congrArg Int64.toInt32 (hT 7 _ rfl).2).trans (kd (1 + blw (sR ce k >>> (5 &&& 31)) 60) (by omega)).2.2.2.1
  have T8 : TK N (q + 8) = 59 := (hT 8 _ rfl).1.trans ks59.2.2
  have V1 : TV L (q + 1) = lexV (99 :: dgt k) := (hT 1 _ rfl).2
  have hf := fn99 p.2.2.2.2.2.2.2.2.1 (show k < 10 by omega)
  have hP : nI (blw (sR ce k) (n2 ce)) ≤ Q 0 1 - 1 := by
    have hu : nI (n2 ce) - 1 = nI (n2 ce - 1) := by
      have := nI_pred (n2 ce - 1)
      rw [show n2 ce - 1 + 1 = n2 ce by omega] at this
      exact this
    rw [show Q 0 1 = nI (n2 ce) from p.1.2.1, hu]
    exact nI_le (by omega) (by omega)
  refine ⟨_, _, PI_K p hk, ?_⟩
  have e := rk (fv := fv) (d := d + 18) g p.1.2.2.2.1 (show k < 3 by omega) T0 T1 (by rw [V1]; exact hf) T2 T3 V3 (nI_nlt (by omega) (by omega) : ¬ nI (blw (sR ce k) (n2 ce)) < nI 0) hP T4 T5 V5 (nI_nlt (by omega) (by omega) : ¬ nI (1 + blw (sR ce k >>> (3 &&& 31)) 9) < nI 1) (nI_le (by omega) (by decide) : nI (1 + blw (sR ce k >>> (3 &&& 31)) 9) ≤ nI 9) T6 T7 V7 (nI_nlt (by omega) (by omega) : ¬ nI (1 + blw (sR ce k >>> (5 &&& 31)) 60) < nI 1) (nI_le (by omega) (by decide) : nI (1 + blw (sR ce k >>> (5 &&& 31)) 60) ≤ nI 60)
  rw [V1] at e
  exact r44_k (d := d + 18) g T0 hi e T8
theorem ln_F (g : gQ h r pl N) (p : PI ce L0 (n1 ce) (n3 ce) (n4 ce) k Q L) (hk : k < 3) (hT : Tat N L0 q (toks (i5 ce k))) (hi : i < 400) : ∃ Q' L', PI ce L0 (n1 ce) (n3 ce) (n4 ce) (k + 1) Q' L' ∧ xe (ixP fv) (d + 22) 44 50 [some (.ref r), some (.ref tp), some (.int (nI i))] [] (wq h r pl N L q Q) = xe (ixP fv) (d + 22) 44 50 [some (.ref r), some (.ref tp), some (.int (nI (i + 1)))] [] (wq h r pl N L' (q + 7) Q') := by
  have b1 := blw_lt (x := sF ce k) (m := 20) (by decide)
  have b2 := blw_lt (x := sF ce k >>> (4 &&& 31)) (m := 12) (by decide)
  have hT := Tat_L p.2.2.2.2.2.1 hT
  have T0 : TK N q = 12 := (hT 0 _ rfl).1.trans kk12.2.2
  have T1 : TK N (q + 1) = 97 := (hT 1 _ rfl).1.trans (kn102 k (by omega)).2.2
  have T2 : TK N (q + 2) = 13 := (hT 2 _ rfl).1.trans kk13.2.2
  have T3 : TK N (q + 3) = 48 := (hT 3 _ rfl).1.trans (kd3 (1 + blw (sF ce k) 20) (by omega)).2.2
  have V3 : (TV L (q + 3)).toInt32 = nI (1 + blw (sF ce k) 20) := (congrArg Int64.toInt32 (hT 3 _ rfl).2).trans (kd (1 + blw (sF ce k) 20) (by omega)).2.2.2.1
  have T4 : TK N (q + 4) = 7 := (hT 4 _ rfl).1.trans kk7.2.2
  have T5 : TK N (q + 5) = 48 := (hT 5 _ rfl).1.trans (kd3 (1 + blw (sF ce k >>> (4 &&& 31)) 12) (by omega)).2.2
  have V5 : (TV L (q + 5)).toInt32 = nI (1 + blw (sF ce k >>> (4 &&& 31)) 12) := (congrArg Int64.toInt32 (hT 5 _ rfl).2).trans (kd (1 + blw (sF ce k >>> (4 &&& 31)) 12) (by omega)).2.2.2.1
  have T6 : TK N (q + 6) = 59 := (hT 6 _ rfl).1.trans ks59.2.2
  have V1 : TV L (q + 1) = lexV (102 :: dgt k) := (hT 1 _ rfl).2
  have hf := fn102 p.2.2.2.2.2.2.2.2.2 (show k < 10 by omega)
  refine ⟨_, _, PI_F p hk, ?_⟩
  have e := rf (fv := fv) (d := d + 18) g p.1.2.2.2.2.1 (show k < 3 by omega) T0 T1 (by rw [V1]; exact hf) T2 T3 V3 (nI_nlt (by omega) (by omega) : ¬ nI (1 + blw (sF ce k) 20) < nI 1) (nI_le (by omega) (by decide) : nI (1 + blw (sF ce k) 20) ≤ nI 20) T4 T5 V5 (nI_nlt (by omega) (by omega) : ¬ nI (1 + blw (sF ce k >>> (4 &&& 31)) 12) < nI 1) (nI_le (by omega) (by decide) : nI (1 + blw (sF ce k >>> (4 &&& 31)) 12) ≤ nI 12)
  rw [V1] at e
  exact r44_f (d := d + 18) g T0 hi e T6
theorem lp_B (g : gQ h r pl N) : ∀ (r' k q i : Nat) (Q : Mem) (L : Jem), k + r' = n1 ce → PI ce L0 (k) 0 0 0 Q L → Tat N L0 q (cat (fun k => toks (i1 ce k)) k r') → i + r' ≤ 400 → ∃ Q' L', PI ce L0 (n1 ce) 0 0 0 Q' L' ∧ xe (ixP fv) (d + 22) 44 50 [some (.ref r), some (.ref tp), some (.int (nI i))] [] (wq h r pl N L q Q) = xe (ixP fv) (d + 22) 44 50 [some (.ref r), some (.ref tp), some (.int (nI (i + r')))] [] (wq h r pl N L' (q + (cat (fun k => toks (i1 ce k)) k r').length) Q')
  | 0, k, q, i, Q, L, hk, p, hT, hi => by
    have hk : k = n1 ce := hk
    subst hk
    exact ⟨Q, L, p, rfl⟩
  | r' + 1, k, q, i, Q, L, hk, p, hT, hi => by
    have hb := n1_b (ce := ce)
    obtain ⟨t1, t2⟩ := Tat_app.mp (show Tat N L0 q (toks (i1 ce k) ++ cat (fun k => toks (i1 ce k)) (k + 1) r') from hT)
    obtain ⟨Q1, L1, p1, e1⟩ := ln_B (fv := fv) (d := d) (tp := tp) g p (show k < 4 by omega) t1 (show i < 400 by omega)
    obtain ⟨Q2, L2, p2, e2⟩ := lp_B g r' (k + 1) (q + 7) (i + 1) Q1 L1 (by omega) p1 t2 (by omega)
    refine ⟨Q2, L2, p2, e1.trans (e2.trans ?_)⟩
    show _ = xe (ixP fv) (d + 22) 44 50 [some (.ref r), some (.ref tp), some (.int (nI (i + (r' + 1))))] [] (wq h r pl N L2 (q + (toks (i1 ce k) ++ cat (fun k => toks (i1 ce k)) (k + 1) r').length) Q2)
    rw [List.length_append, show i + 1 + r' = i + (r' + 1) by omega]
    have ln : (toks (i1 ce k)).length = 7 := rfl
    rw [ln, ← Nat.add_assoc q 7 _]
theorem lp_C (g : gQ h r pl N) : ∀ (r' k q i : Nat) (Q : Mem) (L : Jem), k + r' = n3 ce → PI ce L0 (n1 ce) (k) 0 0 Q L → Tat N L0 q (cat (fun k => toks (i3 ce k)) k r') → i + r' ≤ 400 → ∃ Q' L', PI ce L0 (n1 ce) (n3 ce) 0 0 Q' L' ∧ xe (ixP fv) (d + 22) 44 50 [some (.ref r), some (.ref tp), some (.int (nI i))] [] (wq h r pl N L q Q) = xe (ixP fv) (d + 22) 44 50 [some (.ref r), some (.ref tp), some (.int (nI (i + r')))] [] (wq h r pl N L' (q + (cat (fun k => toks (i3 ce k)) k r').length) Q')
  | 0, k, q, i, Q, L, hk, p, hT, hi => by
    have hk : k = n3 ce := hk
    subst hk
    exact ⟨Q, L, p, rfl⟩
  | r' + 1, k, q, i, Q, L, hk, p, hT, hi => by
    have hb := n3_b (ce := ce)
    obtain ⟨t1, t2⟩ := Tat_app.mp (show Tat N L0 q (toks (i3 ce k) ++ cat (fun k => toks (i3 ce k)) (k + 1) r') from hT)
    obtain ⟨Q1, L1, p1, e1⟩ := ln_C (fv := fv) (d := d) (tp := tp) g p (show k < 4 by omega) t1 (show i < 400 by omega)
    obtain ⟨Q2, L2, p2, e2⟩ := lp_C g r' (k + 1) (q + 11) (i + 1) Q1 L1 (by omega) p1 t2 (by omega)
    refine ⟨Q2, L2, p2, e1.trans (e2.trans ?_)⟩
    show _ = xe (ixP fv) (d + 22) 44 50 [some (.ref r), some (.ref tp), some (.int (nI (i + (r' + 1))))] [] (wq h r pl N L2 (q + (toks (i3 ce k) ++ cat (fun k => toks (i3 ce k)) (k + 1) r').length) Q2)
    rw [List.length_append, show i + 1 + r' = i + (r' + 1) by omega]
    have ln : (toks (i3 ce k)).length = 11 := rfl
    rw [ln, ← Nat.add_assoc q 11 _]
theorem lp_K (g : gQ h r pl N) : ∀ (r' k q i : Nat) (Q : Mem) (L : Jem), k + r' = n4 ce → PI ce L0 (n1 ce) (n3 ce) (k) 0 Q L → Tat N L0 q (cat (fun k => toks (i4 ce k)) k r') → i + r' ≤ 400 → ∃ Q' L', PI ce L0 (n1 ce) (n3 ce) (n4 ce) 0 Q' L' ∧ xe (ixP fv) (d + 22) 44 50 [some (.ref r), some (.ref tp), some (.int (nI i))] [] (wq h r pl N L q Q) = xe (ixP fv) (d + 22) 44 50 [some (.ref r), some (.ref tp), some (.int (nI (i + r')))] [] (wq h r pl N L' (q + (cat (fun k => toks (i4 ce k)) k r').length) Q')
  | 0, k, q, i, Q, L, hk, p, hT, hi => by
    have hk : k = n4 ce := hk
    subst hk
    exact ⟨Q, L, p, rfl⟩
  | r' + 1, k, q, i, Q, L, hk, p, hT, hi => by
    have hb := n4_b (ce := ce)
    obtain ⟨t1, t2⟩ := Tat_app.mp (show Tat N L0 q (toks (i4 ce k) ++ cat (fun k => toks (i4 ce k)) (k + 1) r') from hT)
    obtain ⟨Q1, L1, p1, e1⟩ := ln_K (fv := fv) (d := d) (tp := tp) g p (show k < 3 by omega) t1 (show i < 400 by omega)
    obtain ⟨Q2, L2, p2, e2⟩ := lp_K g r' (k + 1) (q + 9) (i + 1) Q1 L1 (by omega) p1 t2 (by omega)
    refine ⟨Q2, L2, p2, e1.trans (e2.trans ?_)⟩
    show _ = xe (ixP fv) (d + 22) 44 50 [some (.ref r), some (.ref tp), some (.int (nI (i + (r' + 1))))] [] (wq h r pl N L2 (q + (toks (i4 ce k) ++ cat (fun k => toks (i4 ce k)) (k + 1) r').length) Q2)
    rw [List.length_append, show i + 1 + r' = i + (r' + 1) by omega]
    have ln : (toks (i4 ce k)).length = 9 := rfl
    rw [ln, ← Nat.add_assoc q 9 _]
theorem lp_F (g : gQ h r pl N) : ∀ (r' k q i : Nat) (Q : Mem) (L : Jem), k + r' = n5 ce → PI ce L0 (n1 ce) (n3 ce) (n4 ce) (k) Q L → Tat N L0 q (cat (fun k => toks (i5 ce k)) k r') → i + r' ≤ 400 → ∃ Q' L', PI ce L0 (n1 ce) (n3 ce) (n4 ce) (n5 ce) Q' L' ∧ xe (ixP fv) (d + 22) 44 50 [some (.ref r), some (.ref tp), some (.int (nI i))] [] (wq h r pl N L q Q) = xe (ixP fv) (d + 22) 44 50 [some (.ref r), some (.ref tp), some (.int (nI (i + r')))] [] (wq h r pl N L' (q + (cat (fun k => toks (i5 ce k)) k r').length) Q')
  | 0, k, q, i, Q, L, hk, p, hT, hi => by
    have hk : k = n5 ce := hk
    subst hk
    exact ⟨Q, L, p, rfl⟩
  | r' + 1, k, q, i, Q, L, hk, p, hT, hi => by
    have hb := n5_b (ce := ce)
    obtain ⟨t1, t2⟩ := Tat_app.mp (show Tat N L0 q (toks (i5 ce k) ++ cat (fun k => toks (i5 ce k)) (k + 1) r') from hT)
    obtain ⟨Q1, L1, p1, e1⟩ := ln_F (fv := fv) (d := d) (tp := tp) g p (show k < 3 by omega) t1 (show i < 400 by omega)
    obtain ⟨Q2, L2, p2, e2⟩ := lp_F g r' (k + 1) (q + 7) (i + 1) Q1 L1 (by omega) p1 t2 (by omega)
    refine ⟨Q2, L2, p2, e1.trans (e2.trans ?_)⟩
    show _ = xe (ixP fv) (d + 22) 44 50 [some (.ref r), some (.ref tp), some (.int (nI (i + (r' + 1))))] [] (wq h r pl N L2 (q + (toks (i5 ce k) ++ cat (fun k => toks (i5 ce k)) (k + 1) r').length) Q2)
    rw [List.length_append, show i + 1 + r' = i + (r' + 1) by omega]
    have ln : (toks (i5 ce k)).length = 7 := rfl
    rw [ln, ← Nat.add_assoc q 7 _]
end RD8
