/-! THE LAW: isSame; bays (written by gen9993.py). -/
section LAWS2
variable {fv : Value} {d : Nat} {H : ix_H} {b tp rd pl t t2 tb o : Nat} {lea len : Int32} {Q A A' Z Z' : Mem} {s : Nat} {K : Nat → Option (Nat × Nat)} {X : Nat → Nat} {D : Nat → Nat → Nat} {n fb : Nat → Nat} {M M' : Mm} {p c f q m k v j r : Nat} {w i x : Int32} {F : Nat → Int32} {l0 l1 l2 l3 l4 l5 l6 l7 l8 l9 : Option Value} {o2 : Nat}
/-- what bay tells -/
def vB (M : Mm) (n fb : Nat → Nat) (k : Nat) : Nat → Int32
  | 0 => M 1 k 0
  | 1 => M 1 k 1
  | 2 => nI (fb k)
  | 3 => sLf M n (nI k)
  | _ => b01 (sDa M n (nI k))
theorem hwB (g : HI H b tp rd pl t t2 tb lea len Q A Z s K X D n M fb) (hk : k < n 1) : ∀ j, j < 5 → xe (ixP fv) (d + 3) 96 0 [some (.ref b), some (.int (nI k)), some (.int (nI j))] [] H = some (.inl (some (.int (vB M n fb k j))), H)
  | 0, _ => by
    have e : byL Q A (nI k) 0 = M 1 k 0 := (show byL Q A (nI k) 0 = ca 5 (Q 1) (nI k) by simp only [byL]).trans ((ca_n (by have := (HI_n g).1; omega) (by decide)).trans (g.2.1.1.1.2.2.1.2.2 k hk).1)
    have h := hw96_0 (fv := fv) (d := d) g hk
    rw [e] at h
    exact h
  | 1, _ => by
    have e : byL Q A (nI k) 1 = M 1 k 1 := (show byL Q A (nI k) 1 = ca 5 (Q 2) (nI k) by simp only [byL]).trans ((ca_n (by have := (HI_n g).1; omega) (by decide)).trans (g.2.1.1.1.2.2.1.2.2 k hk).2.1)
    have h := hw96_1 (fv := fv) (d := d) g hk
    rw [e] at h
    exact h
  | 2, _ => by
    have h := m96_2 (fv := fv) (d := d) (Q := Q) (A := A) (p := nI k) g.1.1.1 (by rw [g.2.1.1.1.1.1]; exact inL_n hk (by have := (HI_n g).1; omega))
    have e : byL Q A (nI k) 2 = nI (fb k) := (show byL Q A (nI k) 2 = ca 5 (Q 3) (nI k) by simp only [byL]).trans ((ca_n (by have := (HI_n g).1; omega) (by decide)).trans (g.2.1.1.1.2.2.1.2.2 k hk).2.2.1)
    rw [HW_A g.1, e] at h
    exact h
  | 3, _ => by
    have h := hw96_3 (fv := fv) (d := d) g hk
    rw [lbL_k g.2.1.1.1 g.2.1.1.2.1 g.2.1.1.2.2.2.2.1 g.2.1.1.2.2.2.2.2.1 hk] at h
    exact h
  | 4, _ => by
    have h := hw96_4 (fv := fv) (d := d) g hk
    rw [daL_k g.2.1.1.1 g.2.1.1.2.1 g.2.1.1.2.2.2.2.1 g.2.1.1.2.2.2.2.2.1 hk] at h
    exact h
  | _ + 5, h => by omega
theorem s_bay0 (g : HI H b tp rd pl t t2 tb lea len Q A Z s K X D n M fb) (hk : k < n 1) : xe (ixP fv) (d + 9) 135 147 [some (.ref s), some (.ref b), some (.ref o2), some (.int (nI (fb k))), some (.int (nI k)), l5, l6, l7, l8, l9] [] H = xe (ixP fv) (d + 9) 135 219 [some (.ref s), some (.ref b), some (.ref o2), some (.int (nI (fb k))), some (.int (nI k)), some (.ref (H.length)), some (.int (nI 0)), l7, l8, l9] [] (H ++ [.inl (0, 5, .inl (upd (upd (upd (upd (upd (fun _ => 0) 0 (M 1 k 0)) 1 (M 1 k 1)) 2 (nI (fb k))) 3 (sLf M n (nI k))) 4 (b01 (sDa M n (nI k)))))]) := by
  obtain ⟨a1, a2, a3, a4, a5, a6⟩ := HW_lt g.1
  have h98 : 98 ≤ H.length := by omega
  have hn := HI_n g
  have e40 := fun ty fin Y => hS4 (fv := fv) (ty := ty) (fin := fin) (Y := Y) g
  have e4 := fun (F : Nat → Int32) ty fin Y => hS4 (fv := fv) (ty := ty) (fin := fin) (Y := Y) (HI_push g (l := [.inl (0, 5, .inl F)]))
  have q1 := fun (F : Nat → Int32) => hQ1 (fv := fv) (HI_push g (l := [.inl (0, 5, .inl F)])) hk
  have r0 := fun (F : Nat → Int32) => h1_0 (HI_push g (l := [.inl (0, 5, .inl F)])) hk
  have r1 := fun (F : Nat → Int32) => h1_1 (HI_push g (l := [.inl (0, 5, .inl F)])) hk
  have m1 := fun (F : Nat → Int32) d w => hm123 (fv := fv) (d := d) (w := w) (HI_push g (l := [.inl (0, 5, .inl F)]))
  have m2 := fun (F : Nat → Int32) d => hm124 (fv := fv) (d := d) (HI_push g (l := [.inl (0, 5, .inl F)])) hk
  have is := fun (F : Nat → Int32) => HI_isS (fv := fv) (HI_push g (l := [.inl (0, 5, .inl F)]))
  have k5 : (5 : Int32).toNatClampNeg = 5 := nI_clamp (n := 5) (by decide)
  have b5 : ix_big 5 = true := bg (m := 5) (by decide)
  have n1 := hL1 (fv := fv) g
  have c1 : ¬ nI (n 1) ≤ nI k := nI_ge hk (by omega)
  have w0 : ∀ (F : Nat → Int32) (w : Int32), wA (ixP fv) (H ++ [.inl (0, 5, .inl F)]) H.length 0 w = some (H ++ [.inl (0, 5, .inl (upd F 0 w))]) := fun F w => wE (j := 0) h98 (by decide) (by decide)
  have w1 : ∀ (F : Nat → Int32) (w : Int32), wA (ixP fv) (H ++ [.inl (0, 5, .inl F)]) H.length 1 w = some (H ++ [.inl (0, 5, .inl (upd F 1 w))]) := fun F w => wE (j := 1) h98 (by decide) (by decide)
  have w2 : ∀ (F : Nat → Int32) (w : Int32), wA (ixP fv) (H ++ [.inl (0, 5, .inl F)]) H.length 2 w = some (H ++ [.inl (0, 5, .inl (upd F 2 w))]) := fun F w => wE (j := 2) h98 (by decide) (by decide)
  have w3 : ∀ (F : Nat → Int32) (w : Int32), wA (ixP fv) (H ++ [.inl (0, 5, .inl F)]) H.length 3 w = some (H ++ [.inl (0, 5, .inl (upd F 3 w))]) := fun F w => wE (j := 3) h98 (by decide) (by decide)
  have w4 : ∀ (F : Nat → Int32) (w : Int32), wA (ixP fv) (H ++ [.inl (0, 5, .inl F)]) H.length 4 w = some (H ++ [.inl (0, 5, .inl (upd F 4 w))]) := fun F w => wE (j := 4) h98 (by decide) (by decide)
  cases h : sDa M n (nI k) with
  | true =>
    rw [h] at m2
    have m2 : ∀ (F : Nat → Int32) d, xe (ixP fv) (d + 2) 124 0 [some (.ref s), some (.int (nI k))] [] (H ++ [.inl (0, 5, .inl F)]) = some (.inl (some (.int 1)), H ++ [.inl (0, 5, .inl F)]) := m2
    simp only [q135_147 (x := nI k), q135_149, q135_150, q135_153, q135_154, q135_157, q135_160, q135_161, q135_162, q135_163, q135_166, q135_168, q135_169, q135_170, q135_171, q135_172, q135_173, q135_174, q135_175, q135_178, q135_180, q135_181, q135_182, q135_183, q135_184, q135_185, q135_186, q135_187, q135_188, q135_189, q135_190, q135_191, q135_193, q135_196, q135_197, q135_198, q135_199, q135_200, q135_202, q135_205, q135_208, q135_209, q135_212, q135_213, q135_214, q135_216, q135_217, q135_158 b5, i10, eq_self, ft0, ft1, b01_ft, k1r, k1i, xG_some, xH_some, xC_v, xC_n, if_true, if_false, not_true_eq_false, not_false_eq_true, ix_st, ix_st2, List.getElem?_cons_succ, List.getElem?_cons_zero, List.set_cons_succ, List.set_cons_zero, Value.category, List.map_cons, List.map_nil, List.sum_cons, List.sum_nil, Nat.reduceAdd, Nat.reduceLeDiff, Nat.reduceEqDiff, Nat.zero_le, reduceCtorEq, ↓reduceIte, eq_self, xit, e40, e4, q1, r0, r1, m1, m2, is, k5, n1, c1, izI, w0, w1, w2, w3, w4]
    rfl
  | false =>
    rw [h] at m2
    have m2 : ∀ (F : Nat → Int32) d, xe (ixP fv) (d + 2) 124 0 [some (.ref s), some (.int (nI k))] [] (H ++ [.inl (0, 5, .inl F)]) = some (.inl (some (.int 0)), H ++ [.inl (0, 5, .inl F)]) := m2
    simp only [q135_147 (x := nI k), q135_149, q135_150, q135_153, q135_154, q135_157, q135_160, q135_161, q135_162, q135_163, q135_166, q135_168, q135_169, q135_170, q135_171, q135_172, q135_173, q135_174, q135_175, q135_178, q135_180, q135_181, q135_182, q135_183, q135_184, q135_185, q135_186, q135_187, q135_188, q135_189, q135_190, q135_191, q135_193, q135_196, q135_197, q135_198, q135_199, q135_200, q135_202, q135_205, q135_208, q135_209, q135_212, q135_213, q135_214, q135_216, q135_217, q135_158 b5, i10, eq_self, ft0, ft1, b01_ft, k1r, k1i, xG_some, xH_some, xC_v, xC_n, if_true, if_false, not_true_eq_false, not_false_eq_true, ix_st, ix_st2, List.getElem?_cons_succ, List.getElem?_cons_zero, List.set_cons_succ, List.set_cons_zero, Value.category, List.map_cons, List.map_nil, List.sum_cons, List.sum_nil, Nat.reduceAdd, Nat.reduceLeDiff, Nat.reduceEqDiff, Nat.zero_le, reduceCtorEq, ↓reduceIte, eq_self, xit, e40, e4, q1, r0, r1, m1, m2, is, k5, n1, c1, izI, w0, w1, w2, w3, w4]
    rfl
theorem s_bay1 (g : HI H b tp rd pl t t2 tb lea len Q A Z s K X D n M fb) (hk : k < n 1) (h2 : H[o]? = some (.inl (0, 5, .inl F))) (hF : ∀ j, j < 5 → F j = vB M n fb k j) : ∀ r j, j + r = 5 → xe (ixP fv) (d + 9) 135 219 [some (.ref s), some (.ref b), some (.ref o2), some (.int (nI (fb k))), some (.int (nI k)), some (.ref (o)), some (.int (nI j)), l7, l8, l9] [] H = xe (ixP fv) (d + 9) 135 147 [some (.ref s), some (.ref b), some (.ref o2), some (.int (nI (fb (k + 1)))), some (.int (nI (k + 1))), some (.ref (o)), some (.int (nI 5)), l7, l8, l9] [] H
  | 0, j, e => by
    have : j = 5 := by omega
    subst this
    have hn := HI_n g
    have c1 : (5 : Int32) ≤ nI 5 := by decide
    have e4 := fun ty fin Y => hS4 (fv := fv) (ty := ty) (fin := fin) (Y := Y) g
    have q1 := hQ1 (fv := fv) g hk
    have r0 := h1_0 g hk
    obtain ⟨-, -, -, p4, p5, p6⟩ := g.2.1.1.1.2.2.1.2.2 k hk
    rw [p4] at r0
    have ek : nI k + 1 = nI (k + 1) := nI_add k 1
    have ef : nI (fb k) + nI (fb (k + 1) - fb k) = nI (fb (k + 1)) := by
      rw [nI_add]
      congr 1
      omega
    simp only [q135_219 (x := nI 5), q135_221, q135_222, q135_249, q135_250, q135_251, q135_254, q135_256, q135_257, q135_258, q135_259, q135_260, q135_261, q135_264, i10, eq_self, ft0, ft1, b01_ft, k1r, k1i, xG_some, xH_some, xC_v, xC_n, if_true, if_false, not_true_eq_false, not_false_eq_true, ix_st, ix_st2, List.getElem?_cons_succ, List.getElem?_cons_zero, List.set_cons_succ, List.set_cons_zero, Value.category, List.map_cons, List.map_nil, List.sum_cons, List.sum_nil, Nat.reduceAdd, Nat.reduceLeDiff, Nat.reduceEqDiff, Nat.zero_le, reduceCtorEq, ↓reduceIte, eq_self, xit, c1, e4, q1, r0, ek, ef]
  | r + 1, j, e => by
    have ih := s_bay1 g hk h2 hF r (j + 1) (by omega)
    refine Eq.trans ?_ ih
    have hj : j < 5 := by omega
    have c1 : ¬ (5 : Int32) ≤ nI j := show ¬ nI 5 ≤ nI j from nI_ge hj (by omega)
    have e1 := fun d => hwB (fv := fv) (d := d) g hk j hj
    have e2 : rA H o (nI j) = some (.int (vB M n fb k j)) := by rw [rA_of h2 (in_big hj (by omega)), nI_clamp (by omega), hF j hj]
    have ek : nI j + 1 = nI (j + 1) := nI_add j 1
    simp only [q135_219 (x := nI j), q135_221, q135_222, q135_225, q135_226, q135_228, q135_230, q135_233, q135_235, q135_237, q135_238, q135_241, q135_242 (st := []), q135_243, q135_246, i10, eq_self, ft0, ft1, b01_ft, k1r, k1i, xG_some, xH_some, xC_v, xC_n, if_true, if_false, not_true_eq_false, not_false_eq_true, ix_st, ix_st2, List.getElem?_cons_succ, List.getElem?_cons_zero, List.set_cons_succ, List.set_cons_zero, Value.category, List.map_cons, List.map_nil, List.sum_cons, List.sum_nil, Nat.reduceAdd, Nat.reduceLeDiff, Nat.reduceEqDiff, Nat.zero_le, reduceCtorEq, ↓reduceIte, eq_self, xit, c1, e1, e2, ek, HI_is g]
theorem s_bay : ∀ (r k : Nat) (H : ix_H) (l5 l6 : Option Value), k + r = n 1 → HI H b tp rd pl t t2 tb lea len Q A Z s K X D n M fb → ∃ H' l5' l6', HI H' b tp rd pl t t2 tb lea len Q A Z s K X D n M fb ∧ H'.length = H.length + r ∧ ix_sz H' = ix_sz H + 5 * r ∧ xe (ixP fv) (d + 9) 135 147 [some (.ref s), some (.ref b), some (.ref o2), some (.int (nI (fb k))), some (.int (nI k)), l5, l6, l7, l8, l9] [] H = xe (ixP fv) (d + 9) 135 267 [some (.ref s), some (.ref b), some (.ref o2), some (.int (nI (fb (n 1)))), some (.int (nI (n 1))), l5', l6', l7, l8, l9] [] H'
  | 0, k, H, l5, l6, e, g => by
    have : k = n 1 := by omega
    subst this
    have n1 := hL1 (fv := fv) g
    have e4 := fun ty fin Y => hS4 (fv := fv) (ty := ty) (fin := fin) (Y := Y) g
    have c1 : nI (n 1) ≤ nI (n 1) := Int32.le_refl _
    refine ⟨H, l5, l6, g, rfl, rfl, ?_⟩
    simp only [q135_147 (x := nI (n 1)), q135_149, q135_150, q135_153, q135_154, i10, eq_self, ft0, ft1, b01_ft, k1r, k1i, xG_some, xH_some, xC_v, xC_n, if_true, if_false, not_true_eq_false, not_false_eq_true, ix_st, ix_st2, List.getElem?_cons_succ, List.getElem?_cons_zero, List.set_cons_succ, List.set_cons_zero, Value.category, List.map_cons, List.map_nil, List.sum_cons, List.sum_nil, Nat.reduceAdd, Nat.reduceLeDiff, Nat.reduceEqDiff, Nat.zero_le, reduceCtorEq, ↓reduceIte, eq_self, xit, n1, e4, c1]
  | r + 1, k, H, l5, l6, e, g => by
    have hk : k < n 1 := by omega
    have s0 := s_bay0 (fv := fv) (d := d) (o2 := o2) (l5 := l5) (l6 := l6) (l7 := l7) (l8 := l8) (l9 := l9) g hk
    have g1 := HI_push g (l := [.inl (0, 5, .inl (upd (upd (upd (upd (upd (fun _ => 0) 0 (M 1 k 0)) 1 (M 1 k 1)) 2 (nI (fb k))) 3 (sLf M n (nI k))) 4 (b01 (sDa M n (nI k)))))])
    have s1 := s_bay1 (fv := fv) (d := d) (o2 := o2) (l7 := l7) (l8 := l8) (l9 := l9) g1 hk get_end (fun j hj => by
      rcases j with _ | _ | _ | _ | _ | j
      all_goals first | rfl | omega) 5 0 rfl
    obtain ⟨H', l5', l6', g2, z1, z2, e2⟩ := s_bay r (k + 1) _ (some (.ref (H.length))) (some (.int (nI 5))) (by omega) g1
    refine ⟨H', l5', l6', g2, ?_, ?_, s0.trans (s1.trans e2)⟩
    · rw [z1, List.length_append]
      show H.length + 1 + r = _
      omega
    · rw [z2, ix_sz_push]
      show ix_sz H + 5 + 5 * r = _
      omega
end LAWS2
