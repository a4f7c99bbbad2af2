/-! THE LAW: act (written by gen95.py). -/
section LAWA
variable {fv : Value} {d : Nat} {H : ix_H} {b tp rd pl t t2 tb : Nat} {lea len : Int32} {Q A A' Z Z' : Mem} {s : Nat} {K : Nat → Option (Nat × Nat)} {X : Nat → Nat} {D : Nat → Nat → Nat} {n fb : Nat → Nat} {M M' : Mm} {p c f q m k v : Nat} {w i x : Int32}
/-- the head of act: a pane, then one of five -/
theorem m174_0 (g : HI H b tp rd pl t t2 tb lea len Q A Z s K X D n M fb) : ∃ p, p < n 2 ∧ (xe (ixP fv) (d + 9) 174 0 [some (.ref b), some (.ref s), some (.int x), none, none, none] [] H = xe (ixP fv) (d + 9) 174 52 [some (.ref b), some (.ref s), some (.int x), some (.int (nI p)), none, none] [] H ∨ xe (ixP fv) (d + 9) 174 0 [some (.ref b), some (.ref s), some (.int x), none, none, none] [] H = xe (ixP fv) (d + 9) 174 91 [some (.ref b), some (.ref s), some (.int x), some (.int (nI p)), none, none] [] H ∨ xe (ixP fv) (d + 9) 174 0 [some (.ref b), some (.ref s), some (.int x), none, none, none] [] H = xe (ixP fv) (d + 9) 174 159 [some (.ref b), some (.ref s), some (.int x), some (.int (nI p)), none, none] [] H ∨ xe (ixP fv) (d + 9) 174 0 [some (.ref b), some (.ref s), some (.int x), none, none, none] [] H = xe (ixP fv) (d + 9) 174 215 [some (.ref b), some (.ref s), some (.int x), some (.int (nI p)), none, none] [] H ∨ xe (ixP fv) (d + 9) 174 0 [some (.ref b), some (.ref s), some (.int x), none, none, none] [] H = xe (ixP fv) (d + 9) 174 270 [some (.ref b), some (.ref s), some (.int x), some (.int (nI p)), none, none] [] H) := by
  have gs := g.1.2.2.2.2.1
  have hn := HI_n g
  refine ⟨blw (x >>> (3 &&& 31)) (n 2), blw_lt hn.2.2.1, ?_⟩
  have e1 := fun d y => m167 (fv := fv) (d := d) (h := wS H K X M) (x := y) hn.2.2.1 (by omega)
  have e2 := fun d y => m167 (fv := fv) (d := d) (h := wS H K X M) (x := y) (m := 10) (by decide) (by decide)
  have t10 : (10 : Int32) = nI 10 := rfl
  have r5 := fun ty fin Y => rS5 (fv := fv) (ty := ty) (fin := fin) (Y := Y) (M := M) gs
  have key : xe (ixP fv) (d + 9) 174 0 [some (.ref b), some (.ref s), some (.int x), none, none, none] [] (wS H K X M) = xe (ixP fv) (d + 9) 174 18 [some (.ref b), some (.ref s), some (.int x), (some (.int (nI (blw (x >>> (3 &&& 31)) (n 2))))), none, none] [.int (nI (blw x 10))] (wS H K X M) := by
    simp only [q174_0, q174_1, q174_2, q174_3, q174_4, q174_7, q174_8, q174_11, q174_12, q174_13, q174_15, i10, eq_self, ft0, ft1, b01_ft, k1r, k1i, xG_some, xH_some, xC_v, xC_n, if_true, if_false, not_true_eq_false, not_false_eq_true, ix_st, ix_st2, List.getElem?_cons_succ, List.getElem?_cons_zero, List.set_cons_succ, List.set_cons_zero, Value.category, List.map_cons, List.map_nil, List.sum_cons, List.sum_nil, Nat.reduceAdd, Nat.reduceLeDiff, Nat.reduceEqDiff, Nat.zero_le, reduceCtorEq, ↓reduceIte, eq_self, xit, e1, t10, e2, r5, lR2 gs]
  rw [HW_S g.1] at key
  rw [key, q174_18]
  split
  · exact Or.inl rfl
  split
  · exact Or.inr (Or.inl rfl)
  split
  · exact Or.inr (Or.inl rfl)
  split
  · exact Or.inr (Or.inr (Or.inl rfl))
  split
  · exact Or.inr (Or.inr (Or.inr (Or.inl rfl)))
  · exact Or.inr (Or.inr (Or.inr (Or.inr rfl)))
/-- wind -/
theorem m174_w (g : HI H b tp rd pl t t2 tb lea len Q A Z s K X D n M fb) : ∃ H' A' M', xe (ixP fv) (d + 9) 174 52 [some (.ref b), some (.ref s), some (.int x), some (.int (nI p)), none, none] [] H = some (.inl (some (.int 1)), H') ∧ HI H' b tp rd pl t t2 tb lea len Q A' Z s K X D n M' fb ∧ FR H H' t2 := by
  have gs := g.1.2.2.2.2.1
  have e1 := fun d y => m167 (fv := fv) (d := d) (h := wS H K X M) (x := y) (m := 7) (by decide) (by decide)
  have t7 : (7 : Int32) = nI 7 := rfl
  have r1 := fun M ty fin Y => rS1 (fv := fv) (ty := ty) (fin := fin) (Y := Y) (M := M) gs
  have w1 := fun v Y ini => wrS (fv := fv) (M := M) (v := v) (c := 1) (Y := Y) (ini := ini) gs (by decide)
  have hb := blw_lt (x := x >>> (4 &&& 31)) (m := 7) (by decide)
  generalize hk : blw (x >>> (4 &&& 31)) 7 = k at hb
  have tw : (nI k - 3).toInt = (k : Int) - 3 := pk_sub_toInt (a := k) (b := 3) (by omega) (by decide)
  have hw : nwL (nI k - 3) = false := by
    unfold nwL
    rw [if_neg (by rw [Int32.lt_iff_toInt_lt, tw]; show ¬ _ < (-3 : Int); omega), if_pos (by rw [Int32.le_iff_toInt_le, tw]; show _ ≤ (3 : Int); omega)]
  have g1 : HW (wS H K X (um M 0 0 1 (nI k - 3))) b tp rd pl t t2 tb lea len Q A Z s K X D n (um M 0 0 1 (nI k - 3)) := HW_putS g.1
  have e2 := fun d => m100 (fv := fv) (d := d) (Q := Q) (A := A) (p := nI k - 3) g1.1.1 hw
  rw [HW_A g1] at e2
  have is2 : ix_is (ixP fv) (wS H K X (um M 0 0 1 (nI k - 3))) b "SkylightWash" = true := is_of g1.1.1.2.2.2.2.2.1 (by decide +kernel)
  have eA : A 0 1 = M 0 0 1 := g.2.1.1.2.1.1.2.1
  refine ⟨wAr (wS H K X (um M 0 0 1 (nI k - 3))) pl t Q (sm A 0 1 (nI k - 3)), sm A 0 1 (nI k - 3), um M 0 0 1 (nI k - 3), ?_, ⟨HW_putA g1, INV_wind g.2.1 (by rw [tw]; omega) (by rw [tw]; omega), g.2.2.1, (um_c (by decide)).trans g.2.2.2.1, WP_s PLs_0 g.2.2.2.2.1, g.2.2.2.2.2.1, g.2.2.2.2.2.2.1, g.2.2.2.2.2.2.2.1, (by rw [sm_x, if_neg (by decide), um_c (by decide)]; exact g.2.2.2.2.2.2.2.2.1), g.2.2.2.2.2.2.2.2.2⟩, FR_t (FR_S g.1 g.2.2.2.2.2.2.1) (FR_A g1)⟩
  have key : xe (ixP fv) (d + 9) 174 52 [some (.ref b), some (.ref s), some (.int x), some (.int (nI p)), none, none] [] (wS H K X M) = some (.inl (some (.int 1)), wAr (wS H K X (um M 0 0 1 (nI k - 3))) pl t Q (sm A 0 1 (nI k - 3))) := by
    simp only [q174_52, q174_53, q174_56, q174_58, q174_59, q174_60, q174_61, q174_62, q174_64, q174_67, q174_68, q174_69, q174_72, q174_73, q174_74, q174_77, q174_80, q174_82, q174_85, q174_86, q174_89, q174_90 (st := []), i10, eq_self, ft0, ft1, b01_ft, k1r, k1i, xG_some, xH_some, xC_v, xC_n, if_true, if_false, not_true_eq_false, not_false_eq_true, ix_st, ix_st2, List.getElem?_cons_succ, List.getElem?_cons_zero, List.set_cons_succ, List.set_cons_zero, Value.category, List.map_cons, List.map_nil, List.sum_cons, List.sum_nil, Nat.reduceAdd, Nat.reduceLeDiff, Nat.reduceEqDiff, Nat.zero_le, reduceCtorEq, ↓reduceIte, eq_self, xit, e1, t7, hk, r1, w1, um_e, e2, is2, eA]
  rw [HW_S g.1] at key
  exact key
/-- hours -/
theorem m174_p (g : HI H b tp rd pl t t2 tb lea len Q A Z s K X D n M fb) : ∃ H' A' M', xe (ixP fv) (d + 9) 174 270 [some (.ref b), some (.ref s), some (.int x), some (.int (nI p)), none, none] [] H = some (.inl (some (.int 1)), H') ∧ HI H' b tp rd pl t t2 tb lea len Q A' Z s K X D n M' fb ∧ FR H H' t2 := by
  have e1 : ∀ d y, xe (ixP fv) d 167 0 [some (.int y), some (.int 4)] [] H = some (.inl (some (.int (nI (blw y 4)))), H) := fun d y => m167 (fv := fv) (d := d) (h := H) (x := y) (m := 4) (by decide) (by decide)
  have e2 : ∀ d y, xe (ixP fv) d 167 0 [some (.int y), some (.int 20)] [] H = some (.inl (some (.int (nI (blw y 20)))), H) := fun d y => m167 (fv := fv) (d := d) (h := H) (x := y) (m := 20) (by decide) (by decide)
  have hone : ∀ k : Nat, 1 + nI k = nI (1 + k) := fun k => nI_add 1 k
  by_cases c : nI (blw (x >>> (8 &&& 31)) 4) = 0
  · have hb := blw_lt (x := x >>> (4 &&& 31)) (m := 20) (by decide)
    obtain ⟨H', A', e3, e4, e5⟩ := m173 (fv := fv) (d := d) (m := 1 + blw (x >>> (4 &&& 31)) 20) g (by omega) (by omega)
    refine ⟨H', A', _, ?_, e4, e5⟩
    simp only [q174_270, q174_271, q174_272, q174_273, q174_274, q174_275, q174_276, q174_277, q174_279, q174_280, q174_281, q174_284, q174_287, q174_289, q174_292, q174_293, q174_296, q174_297, q174_300 (st := []), i10, eq_self, ft0, ft1, b01_ft, k1r, k1i, xG_some, xH_some, xC_v, xC_n, if_true, if_false, not_true_eq_false, not_false_eq_true, ix_st, ix_st2, List.getElem?_cons_succ, List.getElem?_cons_zero, List.set_cons_succ, List.set_cons_zero, Value.category, List.map_cons, List.map_nil, List.sum_cons, List.sum_nil, Nat.reduceAdd, Nat.reduceLeDiff, Nat.reduceEqDiff, Nat.zero_le, reduceCtorEq, ↓reduceIte, eq_self, xit, e1, e2, c, hone, e3]
  · have hb := blw_lt (x := x >>> (4 &&& 31)) (m := 4) (by decide)
    obtain ⟨H', A', e3, e4, e5⟩ := m173 (fv := fv) (d := d) (m := 1 + blw (x >>> (4 &&& 31)) 4) g (by omega) (by omega)
    refine ⟨H', A', _, ?_, e4, e5⟩
    simp only [q174_270, q174_271, q174_272, q174_273, q174_274, q174_275, q174_276, q174_277, q174_279, q174_280, q174_281, q174_284, q174_287, q174_289, q174_292, q174_293, q174_296, q174_297, q174_300 (st := []), i10, eq_self, ft0, ft1, b01_ft, k1r, k1i, xG_some, xH_some, xC_v, xC_n, if_true, if_false, not_true_eq_false, not_false_eq_true, ix_st, ix_st2, List.getElem?_cons_succ, List.getElem?_cons_zero, List.set_cons_succ, List.set_cons_zero, Value.category, List.map_cons, List.map_nil, List.sum_cons, List.sum_nil, Nat.reduceAdd, Nat.reduceLeDiff, Nat.reduceEqDiff, Nat.zero_le, reduceCtorEq, ↓reduceIte, eq_self, xit, e1, e2, c, hone, e3]
/-- carry -/
theorem m174_c (g : HI H b tp rd pl t t2 tb lea len Q A Z s K X D n M fb) (hp : p < n 2) : ∃ H' A' M', xe (ixP fv) (d + 9) 174 159 [some (.ref b), some (.ref s), some (.int x), some (.int (nI p)), none, none] [] H = some (.inl (some (.int 1)), H') ∧ HI H' b tp rd pl t t2 tb lea len Q A' Z s K X D n M' fb ∧ FR H H' t2 := by
  have gs := g.1.2.2.2.2.1
  have hn := HI_n g
  have e1 := fun M d y => m167 (fv := fv) (d := d) (h := wS H K X M) (x := y) (m := n 4) g.2.2.2.2.2.1 (by omega)
  have hb := blw_lt (x := x >>> (5 &&& 31)) (m := n 4) g.2.2.2.2.2.1
  generalize hk : blw (x >>> (5 &&& 31)) (n 4) = c at hb
  have r7 := fun M ty fin Y => rS7 (fv := fv) (ty := ty) (fin := fin) (Y := Y) (M := M) gs
  have g1 : HW (wS H K X (um M 4 c 0 (nI p))) b tp rd pl t t2 tb lea len Q A Z s K X D n (um M 4 c 0 (nI p)) := HW_putS g.1
  have e2 := fun d => m102 (fv := fv) (d := d) (Q := Q) (A := A) (c := nI c) (p := nI p) g1.1.1 (by rw [g.2.1.1.1.1.2.2.2.1]; exact inL_n hb (by omega)) (by rw [g.2.1.1.1.1.2.1]; exact inL_n hp (by omega))
  rw [HW_A g1, ca_n (show c < 3 by omega) (by decide), sp_n (show c < 3 by omega) (by decide), (g.2.1.1.2.1.2.2.1 c hb).1] at e2
  have is2 : ix_is (ixP fv) (wS H K X (um M 4 c 0 (nI p))) b "SkylightWash" = true := is_of g1.1.1.2.2.2.2.2.1 (by decide +kernel)
  refine ⟨wAr (wS H K X (um M 4 c 0 (nI p))) pl t Q (sm A 4 c (nI p)), sm A 4 c (nI p), um M 4 c 0 (nI p), ?_, ⟨HW_putA g1, INV_carry g.2.1 hp, g.2.2.1, (congrFun (congrFun (um_t (by decide)) 0) 3).trans g.2.2.2.1, WP_s (PLs_4 (by decide) (by decide)) g.2.2.2.2.1, g.2.2.2.2.2.1, g.2.2.2.2.2.2.1, g.2.2.2.2.2.2.2.1, (by rw [sm_ne (show 0 ≠ 4 by decide), um_t (show 0 ≠ 4 by decide)]; exact g.2.2.2.2.2.2.2.2.1), g.2.2.2.2.2.2.2.2.2⟩, FR_t (FR_S g.1 g.2.2.2.2.2.2.1) (FR_A g1)⟩
  have key : xe (ixP fv) (d + 9) 174 159 [some (.ref b), some (.ref s), some (.int x), some (.int (nI p)), none, none] [] (wS H K X M) = some (.inl (some (.int 1)), wAr (wS H K X (um M 4 c 0 (nI p))) pl t Q (sm A 4 c (nI p))) := by
    simp only [q174_159, q174_160, q174_163, q174_164, q174_165, q174_166, q174_167, q174_170, q174_171, q174_174, q174_175, q174_177, q174_179, q174_180, q174_181, q174_183, q174_185, q174_186, q174_187, q174_188, q174_189, q174_190, q174_191, q174_192, q174_193, q174_196, q174_197, q174_200, q174_201, q174_204, q174_206, q174_209, q174_210, q174_213, q174_214 (st := []), i10, eq_self, ft0, ft1, b01_ft, k1r, k1i, xG_some, xH_some, xC_v, xC_n, if_true, if_false, not_true_eq_false, not_false_eq_true, ix_st, ix_st2, List.getElem?_cons_succ, List.getElem?_cons_zero, List.set_cons_succ, List.set_cons_zero, Value.category, List.map_cons, List.map_nil, List.sum_cons, List.sum_nil, Nat.reduceAdd, Nat.reduceLeDiff, Nat.reduceEqDiff, Nat.zero_le, reduceCtorEq, ↓reduceIte, eq_self, xit, e1, hk, r7, lR4 gs, rQ4 gs hb, c4_0 gs hb, u4_0 gs hb, e2, is2]
  rw [HW_S g.1] at key
  exact key
/-- scare -/
theorem m174_s (g : HI H b tp rd pl t t2 tb lea len Q A Z s K X D n M fb) : ∃ H' A' M', xe (ixP fv) (d + 9) 174 215 [some (.ref b), some (.ref s), some (.int x), some (.int (nI p)), none, none] [] H = some (.inl (some (.int 1)), H') ∧ HI H' b tp rd pl t t2 tb lea len Q A' Z s K X D n M' fb ∧ FR H H' t2 := by
  have gs := g.1.2.2.2.2.1
  have hn := HI_n g
  have h5 := g.2.2.2.2.2.2.2.1
  have e1 := fun M d y => m167 (fv := fv) (d := d) (h := wS H K X M) (x := y) (m := n 5) h5 (by omega)
  have hb := blw_lt (x := x >>> (5 &&& 31)) (m := n 5) h5
  generalize hk : blw (x >>> (5 &&& 31)) (n 5) = f at hb
  have r8 := fun M ty fin Y => rS8 (fv := fv) (ty := ty) (fin := fin) (Y := Y) (M := M) gs
  have g1 : HW (wS H K X (um M 5 f 0 (-1))) b tp rd pl t t2 tb lea len Q A Z s K X D n (um M 5 f 0 (-1)) := HW_putS g.1
  have e2 := fun d => m103 (fv := fv) (d := d) (Q := Q) (A := A) (p := nI f) g1.1.1 (by rw [g.2.1.1.1.1.2.2.2.2.1]; exact inL_n hb (by omega))
  rw [HW_A g1, ca_n (show f < 3 by omega) (by decide), sp_n (show f < 3 by omega) (by decide), (g.2.1.1.2.1.2.2.2 f hb).1] at e2
  have is2 : ix_is (ixP fv) (wS H K X (um M 5 f 0 (-1))) b "SkylightWash" = true := is_of g1.1.1.2.2.2.2.2.1 (by decide +kernel)
  refine ⟨wAr (wS H K X (um M 5 f 0 (-1))) pl t Q (sm A 7 f (-1)), sm A 7 f (-1), um M 5 f 0 (-1), ?_, ⟨HW_putA g1, INV_scare g.2.1, g.2.2.1, (congrFun (congrFun (um_t (by decide)) 0) 3).trans g.2.2.2.1, WP_s (PLs_5 (by decide) (by decide)) g.2.2.2.2.1, g.2.2.2.2.2.1, g.2.2.2.2.2.2.1, g.2.2.2.2.2.2.2.1, (by rw [sm_ne (show 0 ≠ 7 by decide), um_t (show 0 ≠ 5 by decide)]; exact g.2.2.2.2.2.2.2.2.1), g.2.2.2.2.2.2.2.2.2⟩, FR_t (FR_S g.1 g.2.2.2.2.2.2.1) (FR_A g1)⟩
  have key : xe (ixP fv) (d + 9) 174 215 [some (.ref b), some (.ref s), some (.int x), some (.int (nI p)), none, none] [] (wS H K X M) = some (.inl (some (.int 1)), wAr (wS H K X (um M 5 f 0 (-1))) pl t Q (sm A 7 f (-1))) := by
    simp only [q174_215, q174_216, q174_219, q174_220, q174_221, q174_222, q174_223, q174_226, q174_227, q174_230, q174_231, q174_233, q174_235, q174_236, q174_237, q174_239, q174_241, q174_242, q174_243, q174_244, q174_245, q174_246, q174_247, q174_248, q174_249, q174_252, q174_253, q174_256, q174_259, q174_261, q174_264, q174_265, q174_268, q174_269 (st := []), i10, eq_self, ft0, ft1, b01_ft, k1r, k1i, xG_some, xH_some, xC_v, xC_n, if_true, if_false, not_true_eq_false, not_false_eq_true, ix_st, ix_st2, List.getElem?_cons_succ, List.getElem?_cons_zero, List.set_cons_succ, List.set_cons_zero, Value.category, List.map_cons, List.map_nil, List.sum_cons, List.sum_nil, Nat.reduceAdd, Nat.reduceLeDiff, Nat.reduceEqDiff, Nat.zero_le, reduceCtorEq, ↓reduceIte, eq_self, xit, e1, hk, r8, lR5 gs, rQ5 gs hb, c5_0 gs hb, u5_0 gs hb, e2, is2]
  rw [HW_S g.1] at key
  exact key
end LAWA
