/-! THE LAW: isSame; cradles, flocks (written by gen9995.py). -/
section LAWS4
variable {fv : Value} {d : Nat} {H : ix_H} {b tp rd pl t t2 tb o : Nat} {lea len : Int32} {Q A A' Z Z' : Mem} {s : Nat} {K : Nat → Option (Nat × Nat)} {X : Nat → Nat} {D : Nat → Nat → Nat} {n fb : Nat → Nat} {M M' : Mm} {p c f q m k v j r : Nat} {w i x : Int32} {F : Nat → Int32} {l0 l1 l2 l3 l4 l5 l6 l7 l8 l9 : Option Value} {o2 : Nat} {y3 : Int32}
theorem hwK (g : HI H b tp rd pl t t2 tb lea len Q A Z s K X D n M fb) (hc : c < n 4) : ∀ j, j < 6 → ∃ A', eqA A A' ∧ xe (ixP fv) (d + 5) 97 0 [some (.ref b), some (.int (nI c)), some (.int (nI j))] [] H = some (.inl (some (.int (cv M n c j))), wAr H pl t Q A')
  | 0, _ => ⟨A, eqA_r, by rw [HW_A g.1]; exact hw97_0 g hc⟩
  | 1, _ => ⟨A, eqA_r, by rw [HW_A g.1]; exact hw97_1 g hc⟩
  | 2, _ => ⟨A, eqA_r, by rw [HW_A g.1]; exact hw97_2 g hc⟩
  | 3, _ => ⟨A, eqA_r, by rw [HW_A g.1]; exact hw97_3 g hc⟩
  | 4, _ => by
    obtain ⟨A', h1, h2⟩ := hw97_4 (fv := fv) (d := d) g hc
    exact ⟨A', h2, h1⟩
  | 5, _ => ⟨A, eqA_r, by rw [HW_A g.1]; exact hw97_5 g hc⟩
  | _ + 6, h => by omega
theorem s_cr0 (g : HI H b tp rd pl t t2 tb lea len Q A Z s K X D n M fb) (hc : c < n 4) : xe (ixP fv) (d + 9) 135 465 [some (.ref s), some (.ref b), some (.ref o2), some (.int y3), some (.int (nI c)), l5, l6, l7, l8, l9] [] H = xe (ixP fv) (d + 9) 135 537 [some (.ref s), some (.ref b), some (.ref o2), some (.int y3), some (.int (nI c)), some (.ref (D 4 c)), some (.ref (H.length)), some (.int (nI 0)), l8, l9] [] (H ++ [.inl (0, 6, .inl (upd (upd (upd (upd (upd (upd (fun _ => 0) 0 (M 4 c 0)) 1 (M 4 c 1)) 2 (M 4 c 2)) 3 (M 4 c 3)) 4 (sGl M n c)) 5 (M 4 c 4)))]) := by
  obtain ⟨a1, a2, a3, a4, a5, a6⟩ := HW_lt g.1
  have h98 : 98 ≤ H.length := by omega
  have hn := HI_n g
  have e7 := fun ty fin Y => hS7 (fv := fv) (ty := ty) (fin := fin) (Y := Y) g
  have n4 := hL4 (fv := fv) g
  have q4 := hQ4 (fv := fv) g hc
  have r0 := fun (F : Nat → Int32) => h4_0 (HI_push g (l := [.inl (0, 6, .inl F)])) hc
  have r1 := fun (F : Nat → Int32) => h4_1 (HI_push g (l := [.inl (0, 6, .inl F)])) hc
  have r2 := fun (F : Nat → Int32) => h4_2 (HI_push g (l := [.inl (0, 6, .inl F)])) hc
  have r3 := fun (F : Nat → Int32) => h4_3 (HI_push g (l := [.inl (0, 6, .inl F)])) hc
  have r4 := fun (F : Nat → Int32) => h4_4 (HI_push g (l := [.inl (0, 6, .inl F)])) hc
  have m1 := fun (F : Nat → Int32) d => hm129 (fv := fv) (d := d) (HI_push g (l := [.inl (0, 6, .inl F)])) hc
  have is := fun (F : Nat → Int32) => HI_isS (fv := fv) (HI_push g (l := [.inl (0, 6, .inl F)]))
  have k6 : (6 : Int32).toNatClampNeg = 6 := nI_clamp (n := 6) (by decide)
  have b6 : ix_big 6 = true := bg (m := 6) (by decide)
  have c1 : ¬ nI (n 4) ≤ nI c := nI_ge hc (by omega)
  have w0 : ∀ (F : Nat → Int32) (w : Int32), wA (ixP fv) (H ++ [.inl (0, 6, .inl F)]) H.length 0 w = some (H ++ [.inl (0, 6, .inl (upd F 0 w))]) := fun F w => wE (j := 0) h98 (by decide) (by decide)
  have w1 : ∀ (F : Nat → Int32) (w : Int32), wA (ixP fv) (H ++ [.inl (0, 6, .inl F)]) H.length 1 w = some (H ++ [.inl (0, 6, .inl (upd F 1 w))]) := fun F w => wE (j := 1) h98 (by decide) (by decide)
  have w2 : ∀ (F : Nat → Int32) (w : Int32), wA (ixP fv) (H ++ [.inl (0, 6, .inl F)]) H.length 2 w = some (H ++ [.inl (0, 6, .inl (upd F 2 w))]) := fun F w => wE (j := 2) h98 (by decide) (by decide)
  have w3 : ∀ (F : Nat → Int32) (w : Int32), wA (ixP fv) (H ++ [.inl (0, 6, .inl F)]) H.length 3 w = some (H ++ [.inl (0, 6, .inl (upd F 3 w))]) := fun F w => wE (j := 3) h98 (by decide) (by decide)
  have w4 : ∀ (F : Nat → Int32) (w : Int32), wA (ixP fv) (H ++ [.inl (0, 6, .inl F)]) H.length 4 w = some (H ++ [.inl (0, 6, .inl (upd F 4 w))]) := fun F w => wE (j := 4) h98 (by decide) (by decide)
  have w5 : ∀ (F : Nat → Int32) (w : Int32), wA (ixP fv) (H ++ [.inl (0, 6, .inl F)]) H.length 5 w = some (H ++ [.inl (0, 6, .inl (upd F 5 w))]) := fun F w => wE (j := 5) h98 (by decide) (by decide)
  simp only [q135_465 (x := nI c), q135_467, q135_468, q135_471, q135_472, q135_475, q135_476, q135_479, q135_481, q135_482, q135_484, q135_488, q135_489, q135_490, q135_492, q135_493, q135_494, q135_495, q135_496, q135_497, q135_499, q135_500, q135_501, q135_502, q135_503, q135_504, q135_506, q135_507, q135_508, q135_509, q135_510, q135_511, q135_513, q135_514, q135_515, q135_516, q135_517, q135_518, q135_519, q135_521, q135_524, q135_525, q135_526, q135_527, q135_529, q135_530, q135_531, q135_532, q135_534, q135_535, q135_486 b6, i10, eq_self, ft0, ft1, b01_ft, k1r, k1i, xG_some, xH_some, xC_v, xC_n, if_true, if_false, not_true_eq_false, not_false_eq_true, ix_st, ix_st2, List.getElem?_cons_succ, List.getElem?_cons_zero, List.set_cons_succ, List.set_cons_zero, Value.category, List.map_cons, List.map_nil, List.sum_cons, List.sum_nil, Nat.reduceAdd, Nat.reduceLeDiff, Nat.reduceEqDiff, Nat.zero_le, reduceCtorEq, ↓reduceIte, eq_self, xit, e7, n4, q4, r0, r1, r2, r3, r4, m1, is, k6, c1, izI, w0, w1, w2, w3, w4, w5]
  rfl
theorem s_cr1 (hc : c < n 4) (ho : t2 + 10 ≤ o) (hF : ∀ j, j < 6 → F j = cv M n c j) : ∀ (r j : Nat) (H : ix_H) (A : Mem), j + r = 6 → HI H b tp rd pl t t2 tb lea len Q A Z s K X D n M fb → H[o]? = some (.inl (0, 6, .inl F)) → ∃ H' A', HI H' b tp rd pl t t2 tb lea len Q A' Z s K X D n M fb ∧ FR H H' t2 ∧ xe (ixP fv) (d + 9) 135 537 [some (.ref s), some (.ref b), some (.ref o2), some (.int y3), some (.int (nI c)), l5, some (.ref (o)), some (.int (nI j)), l8, l9] [] H = xe (ixP fv) (d + 9) 135 465 [some (.ref s), some (.ref b), some (.ref o2), some (.int y3), some (.int (nI (c + 1))), l5, some (.ref (o)), some (.int (nI 6)), l8, l9] [] H'
  | 0, j, H, A, e, g, h2 => by
    have : j = 6 := by omega
    subst this
    have c1 : (6 : Int32) ≤ nI 6 := by decide
    have ec : nI c + 1 = nI (c + 1) := nI_add c 1
    refine ⟨H, A, g, FR_r, ?_⟩
    simp only [q135_537 (x := nI 6), q135_539, q135_541, q135_568, q135_571, i10, eq_self, ft0, ft1, b01_ft, k1r, k1i, xG_some, xH_some, xC_v, xC_n, if_true, if_false, not_true_eq_false, not_false_eq_true, ix_st, ix_st2, List.getElem?_cons_succ, List.getElem?_cons_zero, List.set_cons_succ, List.set_cons_zero, Value.category, List.map_cons, List.map_nil, List.sum_cons, List.sum_nil, Nat.reduceAdd, Nat.reduceLeDiff, Nat.reduceEqDiff, Nat.zero_le, reduceCtorEq, ↓reduceIte, eq_self, xit, c1, ec]
  | r + 1, j, H, A, e, g, h2 => by
    have hj : j < 6 := by omega
    obtain ⟨A1, q1, e1⟩ := hwK (fv := fv) (d := d + 3) g hc j hj
    have fr1 := FR_A (A' := A1) g.1
    have h3 := (fr1.2.2 o (Or.inr ho)).trans h2
    obtain ⟨H', A', g2, fr2, ih⟩ := s_cr1 hc ho hF r (j + 1) (wAr H pl t Q A1) A1 (by omega) (HI_q g q1) h3
    refine ⟨H', A', g2, FR_t fr1 fr2, Eq.trans ?_ ih⟩
    have c1 : ¬ (6 : Int32) ≤ nI j := show ¬ nI 6 ≤ nI j from nI_ge hj (by omega)
    have e2 : rA (wAr H pl t Q A1) o (nI j) = some (.int (cv M n c j)) := by rw [rA_of h3 (in_big hj (by omega)), nI_clamp (by omega), hF j hj]
    have ek : nI j + 1 = nI (j + 1) := nI_add j 1
    simp only [q135_537 (x := nI j), q135_539, q135_541, q135_544, q135_545, q135_547, q135_549, q135_552, q135_554, q135_556, q135_557, q135_560, q135_561 (st := []), q135_562, q135_565, i10, eq_self, ft0, ft1, b01_ft, k1r, k1i, xG_some, xH_some, xC_v, xC_n, if_true, if_false, not_true_eq_false, not_false_eq_true, ix_st, ix_st2, List.getElem?_cons_succ, List.getElem?_cons_zero, List.set_cons_succ, List.set_cons_zero, Value.category, List.map_cons, List.map_nil, List.sum_cons, List.sum_nil, Nat.reduceAdd, Nat.reduceLeDiff, Nat.reduceEqDiff, Nat.zero_le, reduceCtorEq, ↓reduceIte, eq_self, xit, c1, e1, e2, ek, HI_is g]
theorem s_crad : ∀ (r c : Nat) (H : ix_H) (A : Mem) (l5 l6 l7 : Option Value), c + r = n 4 → HI H b tp rd pl t t2 tb lea len Q A Z s K X D n M fb → ∃ H' A' l5' l6' l7', HI H' b tp rd pl t t2 tb lea len Q A' Z s K X D n M fb ∧ H'.length = H.length + r ∧ ix_sz H' = ix_sz H + 6 * r ∧ xe (ixP fv) (d + 9) 135 465 [some (.ref s), some (.ref b), some (.ref o2), some (.int y3), some (.int (nI c)), l5, l6, l7, l8, l9] [] H = xe (ixP fv) (d + 9) 135 574 [some (.ref s), some (.ref b), some (.ref o2), some (.int y3), some (.int (nI (n 4))), l5', l6', l7', l8, l9] [] H'
  | 0, c, H, A, l5, l6, l7, e, g => by
    have : c = n 4 := by omega
    subst this
    have n4 := hL4 (fv := fv) g
    have e7 := fun ty fin Y => hS7 (fv := fv) (ty := ty) (fin := fin) (Y := Y) g
    have c1 : nI (n 4) ≤ nI (n 4) := Int32.le_refl _
    refine ⟨H, A, l5, l6, l7, g, rfl, rfl, ?_⟩
    simp only [q135_465 (x := nI (n 4)), q135_467, q135_468, q135_471, q135_472, i10, eq_self, ft0, ft1, b01_ft, k1r, k1i, xG_some, xH_some, xC_v, xC_n, if_true, if_false, not_true_eq_false, not_false_eq_true, ix_st, ix_st2, List.getElem?_cons_succ, List.getElem?_cons_zero, List.set_cons_succ, List.set_cons_zero, Value.category, List.map_cons, List.map_nil, List.sum_cons, List.sum_nil, Nat.reduceAdd, Nat.reduceLeDiff, Nat.reduceEqDiff, Nat.zero_le, reduceCtorEq, ↓reduceIte, eq_self, xit, n4, e7, c1]
  | r + 1, c, H, A, l5, l6, l7, e, g => by
    have hc : c < n 4 := by omega
    obtain ⟨a1, a2, a3, a4, a5, a6⟩ := HW_lt g.1
    have s0 := s_cr0 (fv := fv) (d := d) (o2 := o2) (y3 := y3) (l5 := l5) (l6 := l6) (l7 := l7) (l8 := l8) (l9 := l9) g hc
    obtain ⟨H1, A1, g1, fr1, s1⟩ := s_cr1 (fv := fv) (d := d) (o := H.length) (o2 := o2) (y3 := y3) (l5 := some (.ref (D 4 c))) (l8 := l8) (l9 := l9) hc (by omega) (fun j hj => by
      rcases j with _ | _ | _ | _ | _ | _ | j
      all_goals first | rfl | omega) 6 0 _ A rfl (HI_push g (l := [.inl (0, 6, .inl (upd (upd (upd (upd (upd (upd (fun _ => 0) 0 (M 4 c 0)) 1 (M 4 c 1)) 2 (M 4 c 2)) 3 (M 4 c 3)) 4 (sGl M n c)) 5 (M 4 c 4)))])) get_end
    obtain ⟨H', A', l5', l6', l7', g2, z1, z2, e2⟩ := s_crad r (c + 1) H1 A1 (some (.ref (D 4 c))) (some (.ref (H.length))) (some (.int (nI 6))) (by omega) g1
    refine ⟨H', A', l5', l6', l7', g2, ?_, ?_, s0.trans (s1.trans e2)⟩
    · rw [z1, fr1.1, List.length_append]
      show H.length + 1 + r = _
      omega
    · rw [z2, fr1.2.1, ix_sz_push]
      show ix_sz H + 6 + 6 * r = _
      omega
/-- flocks -/
theorem hwF (g : HI H b tp rd pl t t2 tb lea len Q A Z s K X D n M fb) (hf : f < n 5) : ∀ j, j < 4 → xe (ixP fv) (d + 1) 98 0 [some (.ref b), some (.int (nI f)), some (.int (nI j))] [] H = some (.inl (some (.int (M 5 f j))), H)
  | 0, _ => hw98_0 g hf
  | 1, _ => by
    have h := m98_1 (fv := fv) (d := d) (Q := Q) (A := A) (p := nI f) g.1.1.1 (by rw [g.2.1.1.1.1.2.2.2.2.1]; exact inL_n hf (by have := (HI_n g).2.2.2.2.2.1; omega))
    have e : fkL Q A (nI f) 1 = M 5 f 1 := (show fkL Q A (nI f) 1 = ca 3 (Q 12) (nI f) by simp only [fkL]).trans ((ca_n (by have := (HI_n g).2.2.2.2.2.1; omega) (by decide)).trans (g.2.1.1.1.2.2.2.2.2.2 f hf).1)
    rw [HW_A g.1, e] at h
    exact h
  | 2, _ => by
    have h := m98_2 (fv := fv) (d := d) (Q := Q) (A := A) (p := nI f) g.1.1.1 (by rw [g.2.1.1.1.1.2.2.2.2.1]; exact inL_n hf (by have := (HI_n g).2.2.2.2.2.1; omega))
    have e : fkL Q A (nI f) 2 = M 5 f 2 := (show fkL Q A (nI f) 2 = ca 3 (Q 13) (nI f) by simp only [fkL]).trans ((ca_n (by have := (HI_n g).2.2.2.2.2.1; omega) (by decide)).trans (g.2.1.1.1.2.2.2.2.2.2 f hf).2)
    rw [HW_A g.1, e] at h
    exact h
  | 3, _ => hw98_3 g hf
  | _ + 4, h => by omega
theorem hrF (g : HI H b tp rd pl t t2 tb lea len Q A Z s K X D n M fb) (hf : f < n 5) : ∀ j, j < 4 → rA H (D 5 f) (nI j) = some (.int (M 5 f j))
  | 0, _ => h5_0 g hf
  | 1, _ => h5_1 g hf
  | 2, _ => h5_2 g hf
  | 3, _ => h5_3 g hf
  | _ + 4, h => by omega
theorem s_fl1 (g : HI H b tp rd pl t t2 tb lea len Q A Z s K X D n M fb) (hf : f < n 5) : ∀ r j, j + r = 4 → xe (ixP fv) (d + 9) 135 590 [some (.ref s), some (.ref b), some (.ref o2), some (.int y3), some (.int (nI f)), some (.int (nI j)), l6, l7, l8, l9] [] H = xe (ixP fv) (d + 9) 135 577 [some (.ref s), some (.ref b), some (.ref o2), some (.int y3), some (.int (nI (f + 1))), some (.int (nI 4)), l6, l7, l8, l9] [] H
  | 0, j, e => by
    have : j = 4 := by omega
    subst this
    have c1 : (4 : Int32) ≤ nI 4 := by decide
    have ep : nI f + 1 = nI (f + 1) := nI_add f 1
    simp only [q135_590 (x := nI 4), q135_592, q135_593, q135_625, q135_628, i10, eq_self, ft0, ft1, b01_ft, k1r, k1i, xG_some, xH_some, xC_v, xC_n, if_true, if_false, not_true_eq_false, not_false_eq_true, ix_st, ix_st2, List.getElem?_cons_succ, List.getElem?_cons_zero, List.set_cons_succ, List.set_cons_zero, Value.category, List.map_cons, List.map_nil, List.sum_cons, List.sum_nil, Nat.reduceAdd, Nat.reduceLeDiff, Nat.reduceEqDiff, Nat.zero_le, reduceCtorEq, ↓reduceIte, eq_self, xit, c1, ep]
  | r + 1, j, e => by
    have ih := s_fl1 g hf r (j + 1) (by omega)
    refine Eq.trans ?_ ih
    have hj : j < 4 := by omega
    have c1 : ¬ (4 : Int32) ≤ nI j := show ¬ nI 4 ≤ nI j from nI_ge hj (by omega)
    have e1 := fun d => hwF (fv := fv) (d := d) g hf j hj
    have e2 := hrF g hf j hj
    have e8 := fun ty fin Y => hS8 (fv := fv) (ty := ty) (fin := fin) (Y := Y) g
    have q5 := hQ5 (fv := fv) g hf
    have ek : nI j + 1 = nI (j + 1) := nI_add j 1
    simp only [q135_590 (x := nI j), q135_592, q135_593, q135_596, q135_597, q135_599, q135_601, q135_604, q135_605, q135_608, q135_610, q135_611, q135_613, q135_614, q135_617, q135_618 (st := []), q135_619, q135_622, i10, eq_self, ft0, ft1, b01_ft, k1r, k1i, xG_some, xH_some, xC_v, xC_n, if_true, if_false, not_true_eq_false, not_false_eq_true, ix_st, ix_st2, List.getElem?_cons_succ, List.getElem?_cons_zero, List.set_cons_succ, List.set_cons_zero, Value.category, List.map_cons, List.map_nil, List.sum_cons, List.sum_nil, Nat.reduceAdd, Nat.reduceLeDiff, Nat.reduceEqDiff, Nat.zero_le, reduceCtorEq, ↓reduceIte, eq_self, xit, c1, e1, e2, e8, q5, ek, HI_is g]
theorem s_flk (g : HI H b tp rd pl t t2 tb lea len Q A Z s K X D n M fb) : ∀ (r f : Nat) (l5 : Option Value), f + r = n 5 → ∃ l5', xe (ixP fv) (d + 9) 135 577 [some (.ref s), some (.ref b), some (.ref o2), some (.int y3), some (.int (nI f)), l5, l6, l7, l8, l9] [] H = xe (ixP fv) (d + 9) 135 631 [some (.ref s), some (.ref b), some (.ref o2), some (.int y3), some (.int (nI (n 5))), l5', l6, l7, l8, l9] [] H
  | 0, f, l5, e => by
    have : f = n 5 := by omega
    subst this
    have n5 := hL5 (fv := fv) g
    have e8 := fun ty fin Y => hS8 (fv := fv) (ty := ty) (fin := fin) (Y := Y) g
    have c1 : nI (n 5) ≤ nI (n 5) := Int32.le_refl _
    refine ⟨l5, ?_⟩
    simp only [q135_577 (x := nI (n 5)), q135_579, q135_580, q135_583, q135_584, i10, eq_self, ft0, ft1, b01_ft, k1r, k1i, xG_some, xH_some, xC_v, xC_n, if_true, if_false, not_true_eq_false, not_false_eq_true, ix_st, ix_st2, List.getElem?_cons_succ, List.getElem?_cons_zero, List.set_cons_succ, List.set_cons_zero, Value.category, List.map_cons, List.map_nil, List.sum_cons, List.sum_nil, Nat.reduceAdd, Nat.reduceLeDiff, Nat.reduceEqDiff, Nat.zero_le, reduceCtorEq, ↓reduceIte, eq_self, xit, n5, e8, c1]
  | r + 1, f, l5, e => by
    have hf : f < n 5 := by omega
    have hn := HI_n g
    have n5 := hL5 (fv := fv) g
    have e8 := fun ty fin Y => hS8 (fv := fv) (ty := ty) (fin := fin) (Y := Y) g
    have c1 : ¬ nI (n 5) ≤ nI f := nI_ge hf (by omega)
    have s0 : xe (ixP fv) (d + 9) 135 577 [some (.ref s), some (.ref b), some (.ref o2), some (.int y3), some (.int (nI f)), l5, l6, l7, l8, l9] [] H = xe (ixP fv) (d + 9) 135 590 [some (.ref s), some (.ref b), some (.ref o2), some (.int y3), some (.int (nI f)), some (.int (nI 0)), l6, l7, l8, l9] [] H := by
      simp only [q135_577 (x := nI f), q135_579, q135_580, q135_583, q135_584, q135_587, q135_588, i10, eq_self, ft0, ft1, b01_ft, k1r, k1i, xG_some, xH_some, xC_v, xC_n, if_true, if_false, not_true_eq_false, not_false_eq_true, ix_st, ix_st2, List.getElem?_cons_succ, List.getElem?_cons_zero, List.set_cons_succ, List.set_cons_zero, Value.category, List.map_cons, List.map_nil, List.sum_cons, List.sum_nil, Nat.reduceAdd, Nat.reduceLeDiff, Nat.reduceEqDiff, Nat.zero_le, reduceCtorEq, ↓reduceIte, eq_self, xit, n5, e8, c1]
      rfl
    have s1 := s_fl1 (fv := fv) (d := d) (o2 := o2) (y3 := y3) (l6 := l6) (l7 := l7) (l8 := l8) (l9 := l9) g hf 4 0 rfl
    obtain ⟨l5', e2⟩ := s_flk g r (f + 1) (some (.int (nI 4))) (by omega)
    exact ⟨l5', s0.trans (s1.trans e2)⟩
end LAWS4
