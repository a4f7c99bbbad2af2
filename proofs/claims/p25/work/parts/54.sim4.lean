/-! SIM: an hour, cradles and panes (written by gen54.py). -/
section SIMQ
variable {fv : Value} {d : Nat} {h : ix_H} {s : Nat} {K : Nat → Option (Nat × Nat)} {X : Nat → Nat} {D : Nat → Nat → Nat} {n : Nat → Nat} {M : Mm} {t r j k p c q : Nat} {v i b w x to : Int32}
/-- towards a goal, at most so many steps -/
def sWk (to : Int32) : Nat → Int32 → Int32
  | 0, x => x
  | m + 1, x => if x = to then x else sWk to m (if to ≤ x then x + (-1) else x + 1)
theorem m131_w (g : gS h s K X D n) (hc : c < n 4) {w : Nat} (hw : M 4 c 1 = nI w) (hw2 : w < 2 ^ 31) {l5 l6 : Option Value} : ∀ (m k : Nat) (x : Int32), k + m = w → ∃ l4, xe (ixP fv) (d + 5) 131 246 [some (.ref s), some (.int (nI c)), some (.ref (D 4 c)), some (.int to), some (.int (nI k)), l5, l6] [] (wS h K X (um M 4 c 0 x)) = xe (ixP fv) (d + 5) 131 285 [some (.ref s), some (.int (nI c)), some (.ref (D 4 c)), some (.int to), l4, l5, l6] [] (wS h K X (um M 4 c 0 (sWk to m x)))
  | 0, k, x, e => by
    refine ⟨some (.int (nI k)), ?_⟩
    have h1 : um M 4 c 0 x 4 c 1 = nI w := (um_c (by decide)).trans hw
    have h2 : nI w ≤ nI k := by rw [show k = w by omega]; exact Int32.le_refl _
    simp only [q131_246 (x := nI k), q131_248, q131_249, q131_250, q131_251, i10, eq_self, ft0, ft1, b01_ft, k1r, k1i, xG_some, xH_some, xC_v, xC_n, if_true, if_false, not_true_eq_false, not_false_eq_true, ix_st, ix_st2, List.getElem?_cons_succ, List.getElem?_cons_zero, List.set_cons_succ, List.set_cons_zero, Value.category, List.map_cons, List.map_nil, List.sum_cons, List.sum_nil, Nat.reduceAdd, Nat.reduceLeDiff, Nat.reduceEqDiff, Nat.zero_le, reduceCtorEq, reduceIte, xit, b01_z, b01_o, b01_t, b01_f, Bool.not_eq_true, Bool.true_eq_false, Bool.false_eq_true, not_true, not_false_eq_true, eq_self, c4_1 g hc, h1, h2]
    rfl
  | m + 1, k, x, e => by
    have h1 : um M 4 c 0 x 4 c 1 = nI w := (um_c (by decide)).trans hw
    have h2 : ¬ nI w ≤ nI k := nI_ge (by omega) hw2
    unfold sWk
    by_cases c1 : x = to
    · refine ⟨some (.int (nI k)), ?_⟩
      rw [if_pos c1]
      simp only [q131_246 (x := nI k), q131_248, q131_249, q131_250, q131_251, q131_254, q131_255, q131_256, q131_257, q131_258, i10, eq_self, ft0, ft1, b01_ft, k1r, k1i, xG_some, xH_some, xC_v, xC_n, if_true, if_false, not_true_eq_false, not_false_eq_true, ix_st, ix_st2, List.getElem?_cons_succ, List.getElem?_cons_zero, List.set_cons_succ, List.set_cons_zero, Value.category, List.map_cons, List.map_nil, List.sum_cons, List.sum_nil, Nat.reduceAdd, Nat.reduceLeDiff, Nat.reduceEqDiff, Nat.zero_le, reduceCtorEq, reduceIte, xit, b01_z, b01_o, b01_t, b01_f, Bool.not_eq_true, Bool.true_eq_false, Bool.false_eq_true, not_true, not_false_eq_true, eq_self, c4_1 g hc, c4_0 g hc, h1, h2, um_e, c1, ite_self]
    · rw [if_neg c1]
      obtain ⟨l4, e4⟩ := m131_w g hc hw hw2 m (k + 1) (if to ≤ x then x + (-1) else x + 1) (by omega)
      refine ⟨l4, Eq.trans ?_ e4⟩
      by_cases c2 : to ≤ x
      · rw [if_pos c2]
        simp only [q131_246 (x := nI k), q131_248, q131_249, q131_250, q131_251, q131_254, q131_255, q131_256, q131_257, q131_258, q131_261, q131_262, q131_263, q131_264, q131_265, q131_266, q131_267, q131_268, q131_269, q131_272, q131_273, q131_276, q131_277, q131_278, q131_279, q131_282, i10, eq_self, ft0, ft1, b01_ft, k1r, k1i, xG_some, xH_some, xC_v, xC_n, if_true, if_false, not_true_eq_false, not_false_eq_true, ix_st, ix_st2, List.getElem?_cons_succ, List.getElem?_cons_zero, List.set_cons_succ, List.set_cons_zero, Value.category, List.map_cons, List.map_nil, List.sum_cons, List.sum_nil, Nat.reduceAdd, Nat.reduceLeDiff, Nat.reduceEqDiff, Nat.zero_le, reduceCtorEq, reduceIte, xit, b01_z, b01_o, b01_t, b01_f, Bool.not_eq_true, Bool.true_eq_false, Bool.false_eq_true, not_true, not_false_eq_true, eq_self, nI_1, c4_1 g hc, c4_0 g hc, u4_0 g hc, h1, h2, um_e, um_um, c1, c2]
      · rw [if_neg c2]
        simp only [q131_246 (x := nI k), q131_248, q131_249, q131_250, q131_251, q131_254, q131_255, q131_256, q131_257, q131_258, q131_261, q131_262, q131_263, q131_264, q131_265, q131_266, q131_267, q131_268, q131_269, q131_272, q131_273, q131_276, q131_277, q131_278, q131_279, q131_282, i10, eq_self, ft0, ft1, b01_ft, k1r, k1i, xG_some, xH_some, xC_v, xC_n, if_true, if_false, not_true_eq_false, not_false_eq_true, ix_st, ix_st2, List.getElem?_cons_succ, List.getElem?_cons_zero, List.set_cons_succ, List.set_cons_zero, Value.category, List.map_cons, List.map_nil, List.sum_cons, List.sum_nil, Nat.reduceAdd, Nat.reduceLeDiff, Nat.reduceEqDiff, Nat.zero_le, reduceCtorEq, reduceIte, xit, b01_z, b01_o, b01_t, b01_f, Bool.not_eq_true, Bool.true_eq_false, Bool.false_eq_true, not_true, not_false_eq_true, eq_self, nI_1, c4_1 g hc, c4_0 g hc, u4_0 g hc, h1, h2, um_e, um_um, c1, c2]
def sWo (M : Mm) (c p : Nat) : Int32 := if M 4 c 2 ≤ M 2 p 1 then M 4 c 2 else M 2 p 1
def sWa (M : Mm) (c p : Nat) : Mm := um M 2 p 1 (M 2 p 1 - sWo M c p)
def sWb (M : Mm) (c p : Nat) : Mm := um (sWa M c p) 4 c 4 (sWa M c p 4 c 4 + sWo M c p)
def sWc (M : Mm) (c p : Nat) : Mm := um (sWb M c p) 4 c 3 (sWb M c p 4 c 3 - 1)
def sWd (M : Mm) (c p : Nat) : Mm := if M 4 c 3 = 0 then M else if M 2 p 3 = 1 then M else if M 2 p 1 = 0 then M else sWc M c p
theorem m131_6 (g : gS h s K X D n) (hc : c < n 4) (hx : vx (M 4 c 0) (n 2)) {l4 l5 l6 : Option Value} : ∃ l4' l5', xe (ixP fv) (d + 5) 131 296 [some (.ref s), some (.int (nI c)), some (.ref (D 4 c)), some (.int to), l4, l5, l6] [] (wS h K X M) = xe (ixP fv) (d + 5) 131 376 [some (.ref s), some (.int (nI c)), some (.ref (D 4 c)), some (.int to), l4', l5', l6] [] (wS h K X (sWd M c (M 4 c 0).toNatClampNeg)) := by
  unfold sWd
  by_cases c1 : M 4 c 3 = 0
  · exact ⟨some (.ref (D 2 (M 4 c 0).toNatClampNeg)), l5, by simp only [q131_296, q131_297, q131_300, q131_301, q131_302, q131_303, q131_304, q131_306, q131_307, q131_308, q131_309, i10, eq_self, ft0, ft1, b01_ft, k1r, k1i, xG_some, xH_some, xC_v, xC_n, if_true, if_false, not_true_eq_false, not_false_eq_true, ix_st, ix_st2, List.getElem?_cons_succ, List.getElem?_cons_zero, List.set_cons_succ, List.set_cons_zero, Value.category, List.map_cons, List.map_nil, List.sum_cons, List.sum_nil, Nat.reduceAdd, Nat.reduceLeDiff, Nat.reduceEqDiff, Nat.zero_le, reduceCtorEq, reduceIte, xit, b01_z, b01_o, b01_t, b01_f, Bool.not_eq_true, Bool.true_eq_false, Bool.false_eq_true, not_true, not_false_eq_true, eq_self, c4_0 g hc, c4_3 g hc, rS5 g, rX2 g hx, c1]⟩
  by_cases c2 : M 2 (M 4 c 0).toNatClampNeg 3 = 1
  · exact ⟨some (.ref (D 2 (M 4 c 0).toNatClampNeg)), l5, by simp only [q131_296, q131_297, q131_300, q131_301, q131_302, q131_303, q131_304, q131_306, q131_307, q131_308, q131_309, q131_312, q131_314, q131_315, q131_316, q131_317, i10, eq_self, ft0, ft1, b01_ft, k1r, k1i, xG_some, xH_some, xC_v, xC_n, if_true, if_false, not_true_eq_false, not_false_eq_true, ix_st, ix_st2, List.getElem?_cons_succ, List.getElem?_cons_zero, List.set_cons_succ, List.set_cons_zero, Value.category, List.map_cons, List.map_nil, List.sum_cons, List.sum_nil, Nat.reduceAdd, Nat.reduceLeDiff, Nat.reduceEqDiff, Nat.zero_le, reduceCtorEq, reduceIte, xit, b01_z, b01_o, b01_t, b01_f, Bool.not_eq_true, Bool.true_eq_false, Bool.false_eq_true, not_true, not_false_eq_true, eq_self, c4_0 g hc, c4_3 g hc, rS5 g, rX2 g hx, c2_3 g hx.2, c1, c2]⟩
  by_cases c3 : M 2 (M 4 c 0).toNatClampNeg 1 = 0
  · exact ⟨some (.ref (D 2 (M 4 c 0).toNatClampNeg)), l5, by simp only [q131_296, q131_297, q131_300, q131_301, q131_302, q131_303, q131_304, q131_306, q131_307, q131_308, q131_309, q131_312, q131_314, q131_315, q131_316, q131_317, q131_320, q131_322, q131_323, q131_324, q131_327, i10, eq_self, ft0, ft1, b01_ft, k1r, k1i, xG_some, xH_some, xC_v, xC_n, if_true, if_false, not_true_eq_false, not_false_eq_true, ix_st, ix_st2, List.getElem?_cons_succ, List.getElem?_cons_zero, List.set_cons_succ, List.set_cons_zero, Value.category, List.map_cons, List.map_nil, List.sum_cons, List.sum_nil, Nat.reduceAdd, Nat.reduceLeDiff, Nat.reduceEqDiff, Nat.zero_le, reduceCtorEq, reduceIte, xit, b01_z, b01_o, b01_t, b01_f, Bool.not_eq_true, Bool.true_eq_false, Bool.false_eq_true, not_true, not_false_eq_true, eq_self, c4_0 g hc, c4_3 g hc, rS5 g, rX2 g hx, c2_3 g hx.2, c2_1 g hx.2, c1, c2, c3]⟩
  refine ⟨some (.ref (D 2 (M 4 c 0).toNatClampNeg)), some (.int (sWo M c (M 4 c 0).toNatClampNeg)), ?_⟩
  have e0 : xe (ixP fv) (d + 5) 131 296 [some (.ref s), some (.int (nI c)), some (.ref (D 4 c)), some (.int to), l4, l5, l6] [] (wS h K X M) = xe (ixP fv) (d + 5) 131 352 [some (.ref s), some (.int (nI c)), some (.ref (D 4 c)), some (.int to), some (.ref (D 2 (M 4 c 0).toNatClampNeg)), some (.int (sWo M c (M 4 c 0).toNatClampNeg)), l6] [] (wS h K X M) := by
    unfold sWo
    by_cases c4 : M 4 c 2 ≤ M 2 (M 4 c 0).toNatClampNeg 1 <;> simp only [q131_296, q131_297, q131_300, q131_301, q131_302, q131_303, q131_304, q131_306, q131_307, q131_308, q131_309, q131_312, q131_314, q131_315, q131_316, q131_317, q131_320, q131_322, q131_323, q131_324, q131_327, q131_330, q131_332, q131_333, q131_334, q131_335, q131_336, q131_337, q131_340, q131_342, q131_343, q131_344, q131_347, q131_348, q131_349, q131_350, i10, eq_self, ft0, ft1, b01_ft, k1r, k1i, xG_some, xH_some, xC_v, xC_n, if_true, if_false, not_true_eq_false, not_false_eq_true, ix_st, ix_st2, List.getElem?_cons_succ, List.getElem?_cons_zero, List.set_cons_succ, List.set_cons_zero, Value.category, List.map_cons, List.map_nil, List.sum_cons, List.sum_nil, Nat.reduceAdd, Nat.reduceLeDiff, Nat.reduceEqDiff, Nat.zero_le, reduceCtorEq, reduceIte, xit, b01_z, b01_o, b01_t, b01_f, Bool.not_eq_true, Bool.true_eq_false, Bool.false_eq_true, not_true, not_false_eq_true, eq_self, c4_0 g hc, c4_3 g hc, c4_2 g hc, rS5 g, rX2 g hx, c2_3 g hx.2, c2_1 g hx.2, c1, c2, c3, c4]
  rw [e0]
  simp only [q131_352, q131_354, q131_355, q131_356, q131_357, q131_359, q131_360, q131_361, q131_362, q131_363, q131_364, q131_365, q131_367, q131_368, q131_369, q131_370, q131_371, q131_372, q131_373, q131_374, q131_375, i10, eq_self, ft0, ft1, b01_ft, k1r, k1i, xG_some, xH_some, xC_v, xC_n, if_true, if_false, not_true_eq_false, not_false_eq_true, ix_st, ix_st2, List.getElem?_cons_succ, List.getElem?_cons_zero, List.set_cons_succ, List.set_cons_zero, Value.category, List.map_cons, List.map_nil, List.sum_cons, List.sum_nil, Nat.reduceAdd, Nat.reduceLeDiff, Nat.reduceEqDiff, Nat.zero_le, reduceCtorEq, reduceIte, xit, b01_z, b01_o, b01_t, b01_f, Bool.not_eq_true, Bool.true_eq_false, Bool.false_eq_true, not_true, not_false_eq_true, eq_self, c2_1 g hx.2, u2_1 g hx.2, c4_4 g hc, u4_4 g hc, c4_3 g hc, u4_3 g hc, c1, c2, c3]
  rfl
def sWe (M : Mm) (c : Nat) : Mm := if M 4 c 0 = 0 then um M 4 c 3 20 else M
def sMw (M : Mm) (n : Nat → Nat) (c : Nat) : Mm := um M 4 c 0 (sWk (sGl M n c) (M 4 c 1).toNatClampNeg (M 4 c 0))
def sMx (M : Mm) (n : Nat → Nat) (c : Nat) : Mm := sWd (sWe (sMw M n c) c) c (sMw M n c 4 c 0).toNatClampNeg
def sMc (n : Nat → Nat) (c : Nat) (M : Mm) : Mm := if nI c = M 0 0 3 then M else sMx M n c
theorem sGl_I (hn : n 2 ≤ 50) (hv : vS M n) (hc : c < n 4) : vx (sGl M n c) (n 2) := by
  have h0 := hv.2.2.2.2.2
  unfold sGl
  suffices key : ∀ m k, vx (xit id (fun _ => M 4 c 0) (itx (fun k (_ : Unit) => sGs M n (nI c) k) k m ())) (n 2) from key _ _
  intro m
  induction m with
  | zero => intro k; exact hv.2.2.1 c hc
  | succ m ih =>
    intro k
    unfold itx
    cases hs : sGs M n (nI c) k with
    | inr s' => exact ih (k + 1)
    | inl r =>
      show vx r (n 2)
      unfold sGs at hs
      split at hs
      · cases hs
      split at hs
      · cases hs
      split at hs
      · cases hs
      cases hs
      split
      · next c4 =>
        split
        · next c5 =>
          obtain ⟨q, hq, e⟩ := nI_of (Int32.not_lt.mpr c4)
          rw [e] at c5 ⊢
          exact vx_nI ((nI_ltI hq (by omega)).mp c5) (by omega)
        · rw [show n 2 = (n 2 - 1) + 1 by omega, nI_pred]
          exact vx_nI (by omega) (by omega)
      · exact vx_nI h0 (by omega)
theorem sWk_I (hto : vx to p) (hp : p < 2 ^ 31) : ∀ m x, vx x p → vx (sWk to m x) p
  | 0, x, hx => hx
  | m + 1, x, hx => by
    unfold sWk
    split
    · exact hx
    · next c1 =>
      refine sWk_I hto hp m _ ?_
      have e1 := hx.1
      have e2 := hto.1
      have l1 := hx.2
      have l2 := hto.2
      revert e1 e2 l1 l2 c1
      generalize x.toNatClampNeg = a
      generalize to.toNatClampNeg = b
      intro c1 e1 e2 l1 l2
      subst e1 e2
      split
      · next c2 =>
        have := (nI_leI (by omega) (by omega)).mp c2
        have : a ≠ b := fun q => c1 (by rw [q])
        rw [show a = (a - 1) + 1 by omega, pk_m1]
        exact vx_nI (by omega) hp
      · next c2 =>
        have : ¬ b ≤ a := fun q => c2 (nI_le q (by omega))
        rw [nI_1]
        exact vx_nI (by omega) hp
theorem sMc_I (hn : n 2 ≤ 50) (hv : vS M n) (hc : c < n 4) : vS (sMc n c M) n ∧ (¬ nI c = M 0 0 3 → vx (sMw M n c 4 c 0) (n 2) ∧ vS (sMw M n c) n) := by
  have hto := sGl_I hn hv hc
  have hx0 := hv.2.2.1 c hc
  have hw : vx (sMw M n c 4 c 0) (n 2) := by
    unfold sMw
    rw [um_e]
    exact sWk_I hto (by omega) _ _ hx0
  have hv1 : vS (sMw M n c) n := by
    have h := hw
    unfold sMw at h ⊢
    rw [um_e] at h
    exact vS_40 hv h
  refine ⟨?_, fun _ => ⟨hw, hv1⟩⟩
  unfold sMc
  split
  · exact hv
  unfold sMx sWd
  have hv2 : vS (sWe (sMw M n c) c) n := by
    unfold sWe
    split
    · exact vS_4 hv1 (by decide)
    · exact hv1
  split
  · exact hv2
  split
  · exact hv2
  split
  · exact hv2
  · exact vS_4 (vS_4 (vS_2 hv2 (by decide)) (by decide)) (by decide)
theorem m131_7 (g : gS h s K X D n) (hc : c < n 4) (hv : vS M n) (hs : vx (M 4 c 1) 50) {l2 l3 l4 l5 l6 : Option Value} : ∃ l3' l4' l5', xe (ixP fv) (d + 5) 131 210 [some (.ref s), some (.int (nI c)), l2, l3, l4, l5, l6] [] (wS h K X M) = xe (ixP fv) (d + 5) 131 210 [some (.ref s), some (.int (nI (c + 1))), some (.ref (D 4 c)), l3', l4', l5', l6] [] (wS h K X (sMc n c M)) := by
  have hn := gS_n g (t := 2) (by decide) (by decide)
  have h1 := gk g (t := 4) (by decide) (by decide) hc
  unfold sMc
  by_cases c1 : nI c = M 0 0 3
  · exact ⟨l3, l4, l5, by simp only [q131_210 (x := nI c), q131_211, q131_212, q131_215, q131_216, q131_219, q131_220, q131_223, q131_224, q131_225, q131_226, q131_227, q131_228, q131_231, q131_234, q131_376, q131_379, i10, eq_self, ft0, ft1, b01_ft, k1r, k1i, xG_some, xH_some, xC_v, xC_n, if_true, if_false, not_true_eq_false, not_false_eq_true, ix_st, ix_st2, List.getElem?_cons_succ, List.getElem?_cons_zero, List.set_cons_succ, List.set_cons_zero, Value.category, List.map_cons, List.map_nil, List.sum_cons, List.sum_nil, Nat.reduceAdd, Nat.reduceLeDiff, Nat.reduceEqDiff, Nat.zero_le, reduceCtorEq, reduceIte, xit, b01_z, b01_o, b01_t, b01_f, Bool.not_eq_true, Bool.true_eq_false, Bool.false_eq_true, not_true, not_false_eq_true, eq_self, nI_1, rS3 g, rS7 g, lR4 g, rQ4 g hc, h1, eq_true c1]⟩
  rw [if_neg c1]
  obtain ⟨hw, hv1⟩ := (sMc_I hn hv hc).2 c1
  have e0 : xe (ixP fv) (d + 5) 131 210 [some (.ref s), some (.int (nI c)), l2, l3, l4, l5, l6] [] (wS h K X M) = xe (ixP fv) (d + 5) 131 246 [some (.ref s), some (.int (nI c)), some (.ref (D 4 c)), some (.int (sGl M n c)), some (.int 0), l5, l6] [] (wS h K X M) := by
    simp only [q131_210 (x := nI c), q131_211, q131_212, q131_215, q131_216, q131_219, q131_220, q131_223, q131_224, q131_225, q131_226, q131_227, q131_228, q131_231, q131_234, q131_237, q131_238, q131_239, q131_242, q131_243, q131_244, i10, eq_self, ft0, ft1, b01_ft, k1r, k1i, xG_some, xH_some, xC_v, xC_n, if_true, if_false, not_true_eq_false, not_false_eq_true, ix_st, ix_st2, List.getElem?_cons_succ, List.getElem?_cons_zero, List.set_cons_succ, List.set_cons_zero, Value.category, List.map_cons, List.map_nil, List.sum_cons, List.sum_nil, Nat.reduceAdd, Nat.reduceLeDiff, Nat.reduceEqDiff, Nat.zero_le, reduceCtorEq, reduceIte, xit, b01_z, b01_o, b01_t, b01_f, Bool.not_eq_true, Bool.true_eq_false, Bool.false_eq_true, not_true, not_false_eq_true, eq_self, rS3 g, rS7 g, lR4 g, rQ4 g hc, isS g, m129 g hv hc, h1, c1]
  obtain ⟨k4, e1⟩ := m131_w (fv := fv) (d := d) (to := sGl M n c) (l5 := l5) (l6 := l6) g hc hs.1 (Nat.lt_trans hs.2 (by decide)) (M 4 c 1).toNatClampNeg 0 (M 4 c 0) (Nat.zero_add _)
  rw [um_self] at e1
  rw [e0]
  have e2 : xe (ixP fv) (d + 5) 131 246 [some (.ref s), some (.int (nI c)), some (.ref (D 4 c)), some (.int (sGl M n c)), some (.int 0), l5, l6] [] (wS h K X M) = xe (ixP fv) (d + 5) 131 285 [some (.ref s), some (.int (nI c)), some (.ref (D 4 c)), some (.int (sGl M n c)), k4, l5, l6] [] (wS h K X (sMw M n c)) := e1
  rw [e2]
  have e3 : xe (ixP fv) (d + 5) 131 285 [some (.ref s), some (.int (nI c)), some (.ref (D 4 c)), some (.int (sGl M n c)), k4, l5, l6] [] (wS h K X (sMw M n c)) = xe (ixP fv) (d + 5) 131 296 [some (.ref s), some (.int (nI c)), some (.ref (D 4 c)), some (.int (sGl M n c)), k4, l5, l6] [] (wS h K X (sWe (sMw M n c) c)) := by
    unfold sWe
    by_cases c2 : sMw M n c 4 c 0 = 0 <;> simp only [q131_285, q131_286, q131_287, q131_288, q131_291, q131_292, q131_293, q131_295, i10, eq_self, ft0, ft1, b01_ft, k1r, k1i, xG_some, xH_some, xC_v, xC_n, if_true, if_false, not_true_eq_false, not_false_eq_true, ix_st, ix_st2, List.getElem?_cons_succ, List.getElem?_cons_zero, List.set_cons_succ, List.set_cons_zero, Value.category, List.map_cons, List.map_nil, List.sum_cons, List.sum_nil, Nat.reduceAdd, Nat.reduceLeDiff, Nat.reduceEqDiff, Nat.zero_le, reduceCtorEq, reduceIte, xit, b01_z, b01_o, b01_t, b01_f, Bool.not_eq_true, Bool.true_eq_false, Bool.false_eq_true, not_true, not_false_eq_true, eq_self, c4_0 g hc, u4_3 g hc, c2]
  have hq : sWe (sMw M n c) c 4 c 0 = sMw M n c 4 c 0 := by
    unfold sWe
    split
    · exact um_c (by decide)
    · rfl
  obtain ⟨l4', l5', e4⟩ := m131_6 (fv := fv) (d := d) (M := sWe (sMw M n c) c) (to := sGl M n c) (l4 := k4) (l5 := l5) (l6 := l6) g hc (by rw [hq]; exact hw)
  rw [e3, e4, hq]
  refine ⟨some (.int (sGl M n c)), l4', l5', ?_⟩
  simp only [q131_376, q131_379, i10, eq_self, ft0, ft1, b01_ft, k1r, k1i, xG_some, xH_some, xC_v, xC_n, if_true, if_false, not_true_eq_false, not_false_eq_true, ix_st, ix_st2, List.getElem?_cons_succ, List.getElem?_cons_zero, List.set_cons_succ, List.set_cons_zero, Value.category, List.map_cons, List.map_nil, List.sum_cons, List.sum_nil, Nat.reduceAdd, Nat.reduceLeDiff, Nat.reduceEqDiff, Nat.zero_le, reduceCtorEq, reduceIte, xit, b01_z, b01_o, b01_t, b01_f, Bool.not_eq_true, Bool.true_eq_false, Bool.false_eq_true, not_true, not_false_eq_true, eq_self, nI_1]
  rfl
theorem sMw_s {c' : Nat} (h : vx (M 4 c' 1) 50) : vx (sMc n c M 4 c' 1) 50 := by
  have hw : sMw M n c 4 c' 1 = M 4 c' 1 := um_c (by decide)
  have he : sWe (sMw M n c) c 4 c' 1 = M 4 c' 1 := by
    unfold sWe
    split
    · exact (um_c (by decide)).trans hw
    · exact hw
  unfold sMc
  split
  · exact h
  unfold sMx sWd
  split
  · rw [he]; exact h
  split
  · rw [he]; exact h
  split
  · rw [he]; exact h
  unfold sWc sWb sWa
  rw [um_c (by decide), um_c (by decide), um_t (by decide), he]
  exact h
def sP3 (M : Mm) (n : Nat → Nat) : Mm := itr (sMc n) 0 (n 4) M
def vW (M : Mm) (n : Nat → Nat) : Prop := vS M n ∧ ∀ c, c < n 4 → vx (M 4 c 1) 50
theorem m131_8 (g : gS h s K X D n) (hv : vW M n) {l2 l3 l4 l5 l6 : Option Value} : (∃ l2' l3' l4' l5', xe (ixP fv) (d + 5) 131 210 [some (.ref s), some (.int 0), l2, l3, l4, l5, l6] [] (wS h K X M) = xe (ixP fv) (d + 5) 131 395 [some (.ref s), some (.int 0), some (.ref (X 2)), some (.int (nI (n 2))), some (.int 0), l5', l6] [] (wS h K X (sP3 M n)) ∧ l2' = l2 ∧ l3' = l3 ∧ l4' = l4) ∧ vW (sP3 M n) n := by
  have hn := gS_n g (t := 2) (by decide) (by decide)
  obtain ⟨⟨j', e⟩, hI⟩ := lpI (J := Option Value × Option Value × Option Value × Option Value) (Y := fun j c a => xe (ixP fv) (d + 5) 131 210 [some (.ref s), some (.int (nI c)), j.1, j.2.1, j.2.2.1, j.2.2.2, l6] [] (wS h K X a)) (I := fun a => vW a n) (m := n 4) (f := sMc n) (fun j c a hc hI => by
    obtain ⟨l3', l4', l5', e⟩ := m131_7 (fv := fv) (d := d) (l2 := j.1) (l3 := j.2.1) (l4 := j.2.2.1) (l5 := j.2.2.2) (l6 := l6) g hc hI.1 (hI.2 c hc)
    exact ⟨⟨(some (.ref (D 4 c)), l3', l4', l5'), e⟩, (sMc_I hn hI.1 hc).1, fun c' hc' => sMw_s (hI.2 c' hc')⟩) (l2, l3, l4, l5) M hv
  refine ⟨⟨l2, l3, l4, j'.2.2.2, e.trans ?_, rfl, rfl, rfl⟩, hI⟩
  simp only [q131_210, q131_211, q131_212, q131_215, q131_216, q131_382, q131_383, q131_384, q131_385, q131_388, q131_389, q131_390, q131_391, q131_392, q131_393, i10, eq_self, ft0, ft1, b01_ft, k1r, k1i, xG_some, xH_some, xC_v, xC_n, if_true, if_false, not_true_eq_false, not_false_eq_true, ix_st, ix_st2, List.getElem?_cons_succ, List.getElem?_cons_zero, List.set_cons_succ, List.set_cons_zero, Value.category, List.map_cons, List.map_nil, List.sum_cons, List.sum_nil, Nat.reduceAdd, Nat.reduceLeDiff, Nat.reduceEqDiff, Nat.zero_le, reduceCtorEq, reduceIte, xit, b01_z, b01_o, b01_t, b01_f, Bool.not_eq_true, Bool.true_eq_false, Bool.false_eq_true, not_true, not_false_eq_true, eq_self, rS7 g, lR4 g, rS5 g, lR2 g, gz]
  rfl
def sQa (M : Mm) (p : Nat) : Mm := um M 2 p 2 (M 2 p 2 + M 2 p 1 / 10)
def sQb (M : Mm) (p : Nat) : Mm := um (um (um M 2 p 1 0) 2 p 2 0) 2 p 3 1
def sQs (p : Nat) (a : Int32 × Mm) : Int32 × Mm := if a.2 2 p 3 = 1 then a else if (sQa a.2 p) 1 (sQa a.2 p 2 p 0).toNatClampNeg 1 * 20 ≤ sQa a.2 p 2 p 2 then (a.1 + 1, sQb (sQa a.2 p) p) else (a.1, sQa a.2 p)
theorem sQs_I {a : Int32 × Mm} (hv : vS a.2 n) : vS (sQs p a).2 n := by
  have h1 : vS (sQa a.2 p) n := vS_2 hv (by decide)
  unfold sQs
  split
  · exact hv
  split
  · exact vS_2 (vS_2 (vS_2 h1 (by decide)) (by decide)) (by decide)
  · exact h1
theorem m131_9 (g : gS h s K X D n) (hp : p < n 2) (hv : vS M n) {j l6 : Option Value} : xe (ixP fv) (d + 5) 131 395 [some (.ref s), some (.int v), some (.ref (X 2)), some (.int (nI (n 2))), some (.int (nI p)), j, l6] [] (wS h K X M) = xe (ixP fv) (d + 5) 131 395 [some (.ref s), some (.int (sQs p (v, M)).1), some (.ref (X 2)), some (.int (nI (n 2))), some (.int (nI (p + 1))), some (.ref (D 2 p)), l6] [] (wS h K X (sQs p (v, M)).2) := by
  have h1 := gk g (t := 2) (by decide) (by decide) hp
  have h10 : (10 : Int32) ≠ 0 := by decide
  unfold sQs
  by_cases c1 : M 2 p 3 = 1
  · simp only [q131_395 (x := nI p), q131_397, q131_398, q131_401, q131_402, q131_404, q131_405, q131_407, q131_409, q131_410, q131_411, q131_412, q131_415, q131_474, q131_477, i10, eq_self, ft0, ft1, b01_ft, k1r, k1i, xG_some, xH_some, xC_v, xC_n, if_true, if_false, not_true_eq_false, not_false_eq_true, ix_st, ix_st2, List.getElem?_cons_succ, List.getElem?_cons_zero, List.set_cons_succ, List.set_cons_zero, Value.category, List.map_cons, List.map_nil, List.sum_cons, List.sum_nil, Nat.reduceAdd, Nat.reduceLeDiff, Nat.reduceEqDiff, Nat.zero_le, reduceCtorEq, reduceIte, xit, b01_z, b01_o, b01_t, b01_f, Bool.not_eq_true, Bool.true_eq_false, Bool.false_eq_true, not_true, not_false_eq_true, eq_self, nI_1, rQ2 g hp, c2_3 g hp, h1, c1]
  have hv1 : vS (sQa M p) n := vS_2 hv (by decide)
  have e : um M 2 p 2 (M 2 p 2 + M 2 p 1 / 10) = sQa M p := rfl
  have hx := hv1.2.2.2.2.1 p hp
  by_cases c2 : (sQa M p) 1 (sQa M p 2 p 0).toNatClampNeg 1 * 20 ≤ sQa M p 2 p 2
  · simp only [q131_395 (x := nI p), q131_397, q131_398, q131_401, q131_402, q131_404, q131_405, q131_407, q131_409, q131_410, q131_411, q131_412, q131_415, q131_418, q131_420, q131_421, q131_422, q131_423, q131_425, q131_426, q131_427, q131_429 h10, q131_430, q131_431, q131_432, q131_434, q131_435, q131_436, q131_437, q131_440, q131_442, q131_443, q131_444, q131_445, q131_446, q131_447, q131_449, q131_450, q131_453, q131_456, q131_458, q131_459, q131_460, q131_461, q131_463, q131_464, q131_465, q131_466, q131_468, q131_469, q131_470, q131_471, q131_474, q131_477, i10, eq_self, ft0, ft1, b01_ft, k1r, k1i, xG_some, xH_some, xC_v, xC_n, if_true, if_false, not_true_eq_false, not_false_eq_true, ix_st, ix_st2, List.getElem?_cons_succ, List.getElem?_cons_zero, List.set_cons_succ, List.set_cons_zero, Value.category, List.map_cons, List.map_nil, List.sum_cons, List.sum_nil, Nat.reduceAdd, Nat.reduceLeDiff, Nat.reduceEqDiff, Nat.zero_le, reduceCtorEq, reduceIte, xit, b01_z, b01_o, b01_t, b01_f, Bool.not_eq_true, Bool.true_eq_false, Bool.false_eq_true, not_true, not_false_eq_true, eq_self, nI_1, rQ2 g hp, c2_3 g hp, c2_2 g hp, c2_1 g hp, c2_0 g hp, u2_2 g hp, u2_1 g hp, u2_3 g hp, e, rS4 g, rX1 g hx, c1_1 g hx.2, h1, c1, c2]
    rfl
  · simp only [q131_395 (x := nI p), q131_397, q131_398, q131_401, q131_402, q131_404, q131_405, q131_407, q131_409, q131_410, q131_411, q131_412, q131_415, q131_418, q131_420, q131_421, q131_422, q131_423, q131_425, q131_426, q131_427, q131_429 h10, q131_430, q131_431, q131_432, q131_434, q131_435, q131_436, q131_437, q131_440, q131_442, q131_443, q131_444, q131_445, q131_446, q131_447, q131_449, q131_450, q131_453, q131_474, q131_477, i10, eq_self, ft0, ft1, b01_ft, k1r, k1i, xG_some, xH_some, xC_v, xC_n, if_true, if_false, not_true_eq_false, not_false_eq_true, ix_st, ix_st2, List.getElem?_cons_succ, List.getElem?_cons_zero, List.set_cons_succ, List.set_cons_zero, Value.category, List.map_cons, List.map_nil, List.sum_cons, List.sum_nil, Nat.reduceAdd, Nat.reduceLeDiff, Nat.reduceEqDiff, Nat.zero_le, reduceCtorEq, reduceIte, xit, b01_z, b01_o, b01_t, b01_f, Bool.not_eq_true, Bool.true_eq_false, Bool.false_eq_true, not_true, not_false_eq_true, eq_self, nI_1, rQ2 g hp, c2_3 g hp, c2_2 g hp, c2_1 g hp, c2_0 g hp, u2_2 g hp, e, rS4 g, rX1 g hx, c1_1 g hx.2, h1, c1, c2]
def sP4 (M : Mm) (n : Nat → Nat) : Int32 × Mm := itr sQs 0 (n 2) (0, M)
def sP5 (a : Int32 × Mm) : Mm := um (um a.2 0 0 2 (a.2 0 0 2 + a.1)) 0 0 0 (um a.2 0 0 2 (a.2 0 0 2 + a.1) 0 0 0 + 1)
def sPa (M : Mm) (n : Nat → Nat) : Int32 × Mm := sP4 (sP3 (sP2 (sP1 M n) n) n) n
def sPs (M : Mm) (n : Nat → Nat) : Mm := sP5 (sPa M n)
theorem m131_10 (g : gS h s K X D n) (hv : vS M n) {l5 l6 : Option Value} : xe (ixP fv) (d + 5) 131 395 [some (.ref s), some (.int 0), some (.ref (X 2)), some (.int (nI (n 2))), some (.int 0), l5, l6] [] (wS h K X M) = some (.inl (some (.int ((sP4 M n).1))), wS h K X (sP5 (sP4 M n))) ∧ vS (sP4 M n).2 n := by
  obtain ⟨⟨j', e⟩, hI⟩ := lpI (J := Option Value) (Y := fun j p (a : Int32 × Mm) => xe (ixP fv) (d + 5) 131 395 [some (.ref s), some (.int a.1), some (.ref (X 2)), some (.int (nI (n 2))), some (.int (nI p)), j, l6] [] (wS h K X a.2)) (I := fun a => vS a.2 n) (m := n 2) (f := sQs) (fun j p a hp hI => ⟨⟨some (.ref (D 2 p)), m131_9 g hp hI⟩, sQs_I hI⟩) l5 (0, M) hv
  refine ⟨e.trans ?_, hI⟩
  simp only [q131_395, q131_397, q131_398, q131_480, q131_481, q131_482, q131_485, q131_486, q131_487, q131_490, q131_491, q131_492, q131_495, q131_496, q131_497, q131_500, q131_501 (st := []), i10, eq_self, ft0, ft1, b01_ft, k1r, k1i, xG_some, xH_some, xC_v, xC_n, if_true, if_false, not_true_eq_false, not_false_eq_true, ix_st, ix_st2, List.getElem?_cons_succ, List.getElem?_cons_zero, List.set_cons_succ, List.set_cons_zero, Value.category, List.map_cons, List.map_nil, List.sum_cons, List.sum_nil, Nat.reduceAdd, Nat.reduceLeDiff, Nat.reduceEqDiff, Nat.zero_le, reduceCtorEq, reduceIte, xit, b01_z, b01_o, b01_t, b01_f, Bool.not_eq_true, Bool.true_eq_false, Bool.false_eq_true, not_true, not_false_eq_true, eq_self, gz, rS2 g, rS0 g, wrS g (show 2 < 4 by decide), wrS g (show 0 < 4 by decide)]
  rfl
theorem itr_I {S : Type} {f : Nat → S → S} {I : S → Prop} {m : Nat} (st : ∀ k a, k < m → I a → I (f k a)) : ∀ q k a, k + q = m → I a → I (itr f k q a)
  | 0, _, _, _, hI => hI
  | q + 1, k, a, e, hI => itr_I st q (k + 1) (f k a) (by omega) (st k a (by omega) hI)
theorem sC2_s {c' : Nat} : sC2 n k M 4 c' 1 = M 4 c' 1 := by
  unfold sC2
  split
  · refine itr_I (I := fun a : Mm => a 4 c' 1 = M 4 c' 1) (m := n 2) (fun p a _ h => ?_) (n 2) 0 M (by omega) rfl
    unfold sC1
    split
    · exact h
    split
    · exact h
    split
    · exact h
    · rw [um_t (by decide)]; exact h
  · rfl
theorem sF1_s {c' : Nat} : sF1 n k M 4 c' 1 = M 4 c' 1 := by
  have h1 : sFl M n k 4 c' 1 = M 4 c' 1 := by
    unfold sFl
    split
    · rfl
    rw [um_t (by decide)]
    split
    · rfl
    · rw [um_t (by decide)]
  unfold sF1
  split
  · exact h1
  · rw [um_t (by decide)]; exact h1
theorem sP1_s {c' : Nat} : sP1 M n 4 c' 1 = M 4 c' 1 := itr_I (I := fun a : Mm => a 4 c' 1 = M 4 c' 1) (m := n 3) (fun k a _ h => sC2_s.trans h) (n 3) 0 M (by omega) rfl
theorem sP2_s {c' : Nat} : sP2 M n 4 c' 1 = M 4 c' 1 := itr_I (I := fun a : Mm => a 4 c' 1 = M 4 c' 1) (m := n 5) (fun k a _ h => sF1_s.trans h) (n 5) 0 M (by omega) rfl
theorem sP4_s {c' : Nat} : (sP4 M n).2 4 c' 1 = M 4 c' 1 := itr_I (I := fun a : Int32 × Mm => a.2 4 c' 1 = M 4 c' 1) (m := n 2) (fun p a _ h => by
  have h1 : sQa a.2 p 4 c' 1 = M 4 c' 1 := (congrFun (congrFun (um_t (by decide)) c') 1).trans h
  unfold sQs
  split
  · exact h
  split
  · show sQb (sQa a.2 p) p 4 c' 1 = _
    unfold sQb
    rw [um_t (by decide), um_t (by decide), um_t (by decide)]
    exact h1
  · exact h1) (n 2) 0 (0, M) (by omega) rfl
theorem m131 (g : gS h s K X D n) (hv : vW M n) : xe (ixP fv) (d + 5) 131 0 [some (.ref s), none, none, none, none, none, none] [] (wS h K X M) = some (.inl (some (.int ((sPa M n).1))), wS h K X (sPs M n)) ∧ vW (sPs M n) n := by
  obtain ⟨⟨l2, l3, l4, l5, l6, e1⟩, h1⟩ := m131_3 (fv := fv) (d := d) g hv.1
  obtain ⟨e2, h2⟩ := m131_5 (fv := fv) (d := d) (l2 := l2) (l3 := l3) (l4 := l4) (l5 := l5) (l6 := l6) g h1
  have h2' : vW (sP2 (sP1 M n) n) n := ⟨h2, fun c hc => by rw [sP2_s, sP1_s]; exact hv.2 c hc⟩
  obtain ⟨⟨k2, k3, k4, k5, e3, -⟩, h3⟩ := m131_8 (fv := fv) (d := d) (l2 := l2) (l3 := l3) (l4 := l4) (l5 := l5) (l6 := l6) g h2'
  obtain ⟨e4, h4⟩ := m131_10 (fv := fv) (d := d) (l5 := k5) (l6 := l6) g h3.1
  refine ⟨e1.trans (e2.trans (e3.trans e4)), vS_0 (vS_0 h4), fun c hc => ?_⟩
  show vx (sP5 (sP4 (sP3 (sP2 (sP1 M n) n) n) n) 4 c 1) 50
  unfold sP5
  rw [um_t (by decide), um_t (by decide), sP4_s]
  exact h3.2 c hc
end SIMQ
