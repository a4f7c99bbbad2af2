/-! THE LAW: a round; what is asked of a pane (written by gen991.py). -/
section LAWR1
variable {fv : Value} {d : Nat} {H : ix_H} {b tp rd pl t t2 tb o : Nat} {lea len : Int32} {Q A A' Z Z' : Mem} {s : Nat} {K : Nat → Option (Nat × Nat)} {X : Nat → Nat} {D : Nat → Nat → Nat} {n fb : Nat → Nat} {M M' : Mm} {p c f q m k v j : Nat} {w i x : Int32} {F : Nat → Nat → Int32} {l0 l1 l2 l3 l4 l5 l6 l7 l8 l9 l10 l11 l12 l13 l14 l15 l16 l17 l18 l19 l20 l21 l22 l23 l24 l25 l26 l27 l28 l29 l30 l31 : Option Value} {v10 v11 v12 : Int32}
theorem r9_chk (g : HI H b tp rd pl t t2 tb lea len Q A Z s K X D n M fb) (G : isG H o (n 2) 7 F) (ho : t2 + 10 ≤ o) (hp : p < n 2) (hF : ∀ i, i < 7 → F p i = pv Q A M n p i) : ∃ t0, xe (ixP fv) (d + 10) 0 137 [l0, l1, l2, some (.ref (b)), l4, l5, l6, l7, l8, some (.ref (o)), some (.int (v10)), some (.int (v11)), some (.int (v12)), some (.int (nI p)), some (.int (nI 7)), l15, l16, l17, l18, l19, l20, l21, l22, l23, l24, l25, l26, l27, l28, l29, l30, l31] [] H = xe (ixP fv) (d + 10) 0 127 [l0, l1, l2, some (.ref (b)), l4, l5, l6, l7, l8, some (.ref (o)), some (.int (v10 + sLi M p)), some (.int (v11 + M 2 p 1)), some (.int (v12 + M 2 p 3)), some (.int (nI (p + 1))), some (.ref (o + 1 + p)), some (.int (nI t0)), l16, l17, l18, l19, l20, l21, l22, l23, l24, l25, l26, l27, l28, l29, l30, l31] [] H := by
  obtain ⟨a1, a2, a3, a4, a5, a6⟩ := HW_lt g.1
  have hn := HI_n g
  have hI := g.2.1
  have e0 := rQ_g (fv := fv) G (by omega) hp (by omega)
  have r : ∀ j, j < 7 → rA H (o + 1 + p) (nI j) = some (.int (pv Q A M n p j)) := fun j hj => by rw [rA_g G hp hj (by decide), hF j hj]
  have r0 : rA H (o + 1 + p) 0 = some (.int (M 2 p 0)) := r 0 (by decide)
  have r1 : rA H (o + 1 + p) 1 = some (.int (M 2 p 1)) := r 1 (by decide)
  have r2 : rA H (o + 1 + p) 2 = some (.int (M 2 p 2)) := r 2 (by decide)
  have r3 : rA H (o + 1 + p) 3 = some (.int (M 2 p 3)) := r 3 (by decide)
  have r4 : rA H (o + 1 + p) 4 = some (.int (sLi M p)) := r 4 (by decide)
  have r5 : rA H (o + 1 + p) 5 = some (.int (caL Q A (nI p))) := r 5 (by decide)
  have r6 : rA H (o + 1 + p) 6 = some (.int (b01 (sFr M n (nI p)))) := r 6 (by decide)
  obtain ⟨z, t0, hz, ht, ht0, ht9, hzt⟩ := hI.2.2.2 p hp
  obtain ⟨⟨y, hy, hyB⟩, -⟩ := hI.1.2.2.2.2.1 p hp
  obtain ⟨hb1, b1, hb2, hb3⟩ := by_1 hI hp
  have e96 : ∀ d, xe (ixP fv) (d + 3) 96 0 [some (.ref b), some (.int (M 2 p 0)), some (.int 1)] [] H = some (.inl (some (.int (nI t0))), H) := fun d => by
    have h := hw96_1 (fv := fv) (d := d) g hb3
    rw [← hb2, hb1, ht] at h
    exact h
  have cy : ¬ nI y < 0 := nI_pos (by omega)
  have cz : ¬ nI z < 0 := nI_pos (by omega)
  have c20 : (20 : Int32) * nI t0 = nI (20 * t0) := pk_mul 20 t0
  have cz2 : ¬ nI (20 * t0) ≤ nI z := nI_ge hzt (by omega)
  have e7 : ¬ ((7 : Int32) ≤ nI 7) = False := by decide
  have c7 : (7 : Int32) ≤ nI 7 := by decide
  have ep : nI p + 1 = nI (p + 1) := nI_add p 1
  have hl := li_law hI hp
  refine ⟨t0, ?_⟩
  rw [hy] at r1 hl
  rw [hz] at r2
  rw [hl] at r4
  rw [hy, hl]
  by_cases cl : nI y ≤ 100
  · rw [if_pos cl] at r4 ⊢
    rcases hI.1.2.2.2.1 p hp with hg | ⟨hg, g1, g2⟩
    · have c3 : ¬ M 2 p 3 = 1 := by rw [hg]; decide
      cases hfr : sFr M n (nI p) with
      | true =>
        have hca := fr_ca hI g.2.2.2.1 hp ((frL_k hI.1.1 hI.1.2.1 hI.1.2.2.2.2.2.2.1 hp).trans hfr)
        rw [hfr] at r6
        have r6 : rA H (o + 1 + p) 6 = some (.int 1) := r6
        rw [hca] at r5
        have c0 : (0 : Int32) ≤ 0 := by decide
        simp only [q0_137, q0_139, q0_141, q0_144, q0_146, q0_148, q0_149, q0_151, q0_152, q0_154, q0_156, q0_159, q0_160, q0_163, q0_166, q0_168, q0_170, q0_171, q0_173, q0_175, q0_177, q0_178, q0_179, q0_180, q0_182, q0_184, q0_186, q0_187, q0_188, q0_189, q0_191, q0_193, q0_195, q0_196, q0_197, q0_198, q0_200, q0_201, q0_203, q0_204, q0_205, q0_206, q0_209, q0_211, q0_213, q0_214, q0_215, q0_218, q0_220, q0_221, q0_222, q0_225, q0_227, q0_228, q0_229, q0_231, q0_233, q0_234, q0_237, q0_239, q0_240, q0_241, q0_242, q0_245, q0_247, q0_248, q0_249, q0_252, q0_254, q0_255, q0_256, q0_259, q0_261, q0_263, q0_264, q0_267, q0_269, q0_270, q0_271, q0_273, q0_274, q0_275, q0_277, q0_280, q0_281, q0_284, q0_286, q0_288, q0_289, q0_290, q0_291, q0_294, q0_296, q0_298, q0_299, q0_300, q0_303, q0_305, q0_306, q0_307, q0_310, q0_311 (st := []), q0_312, q0_315, i10, eq_self, ft0, ft1, b01_ft, k1r, k1i, xG_some, xH_some, xC_v, xC_n, if_true, if_false, not_true_eq_false, not_false_eq_true, ix_st, ix_st2, List.getElem?_cons_succ, List.getElem?_cons_zero, List.set_cons_succ, List.set_cons_zero, Value.category, List.map_cons, List.map_nil, List.sum_cons, List.sum_nil, Nat.reduceAdd, Nat.reduceLeDiff, Nat.reduceEqDiff, Nat.zero_le, reduceCtorEq, ↓reduceIte, eq_self, xit, c7, e0, r0, r1, r2, r3, r4, r5, r6, e96, HI_is g, cy, cz, c20, cz2, c3, cl, ep, c0]
      | false =>
        rw [hfr] at r6
        have r6 : rA H (o + 1 + p) 6 = some (.int 0) := r6
        have c01 : ¬ (0 : Int32) = 1 := by decide
        simp only [q0_137, q0_139, q0_141, q0_144, q0_146, q0_148, q0_149, q0_151, q0_152, q0_154, q0_156, q0_159, q0_160, q0_163, q0_166, q0_168, q0_170, q0_171, q0_173, q0_175, q0_177, q0_178, q0_179, q0_180, q0_182, q0_184, q0_186, q0_187, q0_188, q0_189, q0_191, q0_193, q0_195, q0_196, q0_197, q0_198, q0_200, q0_201, q0_203, q0_204, q0_205, q0_206, q0_209, q0_211, q0_213, q0_214, q0_215, q0_218, q0_220, q0_221, q0_222, q0_225, q0_227, q0_228, q0_229, q0_231, q0_233, q0_234, q0_237, q0_239, q0_240, q0_241, q0_242, q0_245, q0_247, q0_248, q0_249, q0_252, q0_254, q0_255, q0_256, q0_259, q0_261, q0_263, q0_264, q0_267, q0_269, q0_270, q0_271, q0_273, q0_274, q0_275, q0_277, q0_280, q0_281, q0_284, q0_286, q0_288, q0_289, q0_290, q0_291, q0_294, q0_296, q0_298, q0_299, q0_300, q0_303, q0_305, q0_306, q0_307, q0_310, q0_311 (st := []), q0_312, q0_315, i10, eq_self, ft0, ft1, b01_ft, k1r, k1i, xG_some, xH_some, xC_v, xC_n, if_true, if_false, not_true_eq_false, not_false_eq_true, ix_st, ix_st2, List.getElem?_cons_succ, List.getElem?_cons_zero, List.set_cons_succ, List.set_cons_zero, Value.category, List.map_cons, List.map_nil, List.sum_cons, List.sum_nil, Nat.reduceAdd, Nat.reduceLeDiff, Nat.reduceEqDiff, Nat.zero_le, reduceCtorEq, ↓reduceIte, eq_self, xit, c7, e0, r0, r1, r2, r3, r4, r5, r6, e96, HI_is g, cy, cz, c20, cz2, c3, cl, ep, c01]
    · have hfr : sFr M n (nI p) = false := by
        cases h : sFr M n (nI p) with
        | false => rfl
        | true =>
          have := sFr_w h
          rw [nI_clamp (by omega), hg] at this
          exact absurd this (by decide)
      rw [hfr] at r6
      have r6 : rA H (o + 1 + p) 6 = some (.int 0) := r6
      have c01 : ¬ (0 : Int32) = 1 := by decide
      rw [g1] at hy
      rw [g2] at hz
      rw [← hy] at r1 r4 cl ⊢
      rw [← hz] at r2 cz2
      have c00 : ¬ (0 : Int32) < 0 := by decide
      simp only [q0_137, q0_139, q0_141, q0_144, q0_146, q0_148, q0_149, q0_151, q0_152, q0_154, q0_156, q0_159, q0_160, q0_163, q0_166, q0_168, q0_170, q0_171, q0_173, q0_175, q0_177, q0_178, q0_179, q0_180, q0_182, q0_184, q0_186, q0_187, q0_188, q0_189, q0_191, q0_193, q0_195, q0_196, q0_197, q0_198, q0_200, q0_201, q0_203, q0_204, q0_205, q0_206, q0_209, q0_211, q0_213, q0_214, q0_215, q0_218, q0_220, q0_221, q0_222, q0_225, q0_227, q0_228, q0_229, q0_231, q0_233, q0_234, q0_237, q0_239, q0_240, q0_241, q0_242, q0_245, q0_247, q0_248, q0_249, q0_252, q0_254, q0_255, q0_256, q0_259, q0_261, q0_263, q0_264, q0_267, q0_269, q0_270, q0_271, q0_273, q0_274, q0_275, q0_277, q0_280, q0_281, q0_284, q0_286, q0_288, q0_289, q0_290, q0_291, q0_294, q0_296, q0_298, q0_299, q0_300, q0_303, q0_305, q0_306, q0_307, q0_310, q0_311 (st := []), q0_312, q0_315, i10, eq_self, ft0, ft1, b01_ft, k1r, k1i, xG_some, xH_some, xC_v, xC_n, if_true, if_false, not_true_eq_false, not_false_eq_true, ix_st, ix_st2, List.getElem?_cons_succ, List.getElem?_cons_zero, List.set_cons_succ, List.set_cons_zero, Value.category, List.map_cons, List.map_nil, List.sum_cons, List.sum_nil, Nat.reduceAdd, Nat.reduceLeDiff, Nat.reduceEqDiff, Nat.zero_le, reduceCtorEq, ↓reduceIte, eq_self, xit, c7, e0, r0, r1, r2, r3, r4, r5, r6, e96, HI_is g, c00, c20, cz2, hg, cl, ep, c01]
  · rw [if_neg cl] at r4 ⊢
    have hg : M 2 p 3 = 0 := by
      rcases hI.1.2.2.2.1 p hp with hg | ⟨hg, g1, g2⟩
      · exact hg
      · rw [g1] at hy
        rw [← hy] at cl
        exact absurd (show (0 : Int32) ≤ 100 by decide) cl
    have c3 : ¬ M 2 p 3 = 1 := by rw [hg]; decide
    cases hfr : sFr M n (nI p) with
    | true =>
      have hca := fr_ca hI g.2.2.2.1 hp ((frL_k hI.1.1 hI.1.2.1 hI.1.2.2.2.2.2.2.1 hp).trans hfr)
      rw [hfr] at r6
      have r6 : rA H (o + 1 + p) 6 = some (.int 1) := r6
      rw [hca] at r5
      have c0 : (0 : Int32) ≤ 0 := by decide
      simp only [q0_137, q0_139, q0_141, q0_144, q0_146, q0_148, q0_149, q0_151, q0_152, q0_154, q0_156, q0_159, q0_160, q0_163, q0_166, q0_168, q0_170, q0_171, q0_173, q0_175, q0_177, q0_178, q0_179, q0_180, q0_182, q0_184, q0_186, q0_187, q0_188, q0_189, q0_191, q0_193, q0_195, q0_196, q0_197, q0_198, q0_200, q0_201, q0_203, q0_204, q0_205, q0_206, q0_209, q0_211, q0_213, q0_214, q0_215, q0_218, q0_220, q0_221, q0_222, q0_225, q0_227, q0_228, q0_229, q0_231, q0_233, q0_234, q0_237, q0_239, q0_240, q0_241, q0_242, q0_245, q0_247, q0_248, q0_249, q0_252, q0_254, q0_255, q0_256, q0_259, q0_261, q0_263, q0_264, q0_267, q0_269, q0_270, q0_271, q0_273, q0_274, q0_275, q0_277, q0_280, q0_281, q0_284, q0_286, q0_288, q0_289, q0_290, q0_291, q0_294, q0_296, q0_298, q0_299, q0_300, q0_303, q0_305, q0_306, q0_307, q0_310, q0_311 (st := []), q0_312, q0_315, i10, eq_self, ft0, ft1, b01_ft, k1r, k1i, xG_some, xH_some, xC_v, xC_n, if_true, if_false, not_true_eq_false, not_false_eq_true, ix_st, ix_st2, List.getElem?_cons_succ, List.getElem?_cons_zero, List.set_cons_succ, List.set_cons_zero, Value.category, List.map_cons, List.map_nil, List.sum_cons, List.sum_nil, Nat.reduceAdd, Nat.reduceLeDiff, Nat.reduceEqDiff, Nat.zero_le, reduceCtorEq, ↓reduceIte, eq_self, xit, c7, e0, r0, r1, r2, r3, r4, r5, r6, e96, HI_is g, cy, cz, c20, cz2, c3, cl, ep, c0]
    | false =>
      rw [hfr] at r6
      have r6 : rA H (o + 1 + p) 6 = some (.int 0) := r6
      have c01 : ¬ (0 : Int32) = 1 := by decide
      simp only [q0_137, q0_139, q0_141, q0_144, q0_146, q0_148, q0_149, q0_151, q0_152, q0_154, q0_156, q0_159, q0_160, q0_163, q0_166, q0_168, q0_170, q0_171, q0_173, q0_175, q0_177, q0_178, q0_179, q0_180, q0_182, q0_184, q0_186, q0_187, q0_188, q0_189, q0_191, q0_193, q0_195, q0_196, q0_197, q0_198, q0_200, q0_201, q0_203, q0_204, q0_205, q0_206, q0_209, q0_211, q0_213, q0_214, q0_215, q0_218, q0_220, q0_221, q0_222, q0_225, q0_227, q0_228, q0_229, q0_231, q0_233, q0_234, q0_237, q0_239, q0_240, q0_241, q0_242, q0_245, q0_247, q0_248, q0_249, q0_252, q0_254, q0_255, q0_256, q0_259, q0_261, q0_263, q0_264, q0_267, q0_269, q0_270, q0_271, q0_273, q0_274, q0_275, q0_277, q0_280, q0_281, q0_284, q0_286, q0_288, q0_289, q0_290, q0_291, q0_294, q0_296, q0_298, q0_299, q0_300, q0_303, q0_305, q0_306, q0_307, q0_310, q0_311 (st := []), q0_312, q0_315, i10, eq_self, ft0, ft1, b01_ft, k1r, k1i, xG_some, xH_some, xC_v, xC_n, if_true, if_false, not_true_eq_false, not_false_eq_true, ix_st, ix_st2, List.getElem?_cons_succ, List.getElem?_cons_zero, List.set_cons_succ, List.set_cons_zero, Value.category, List.map_cons, List.map_nil, List.sum_cons, List.sum_nil, Nat.reduceAdd, Nat.reduceLeDiff, Nat.reduceEqDiff, Nat.zero_le, reduceCtorEq, ↓reduceIte, eq_self, xit, c7, e0, r0, r1, r2, r3, r4, r5, r6, e96, HI_is g, cy, cz, c20, cz2, c3, cl, ep, c01]
end LAWR1
