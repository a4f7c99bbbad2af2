/-! SIM: an hour (written by gen53.py). -/
section SIMP
variable {fv : Value} {d : Nat} {h : ix_H} {s : Nat} {K : Nat → Option (Nat × Nat)} {X : Nat → Nat} {D : Nat → Nat → Nat} {n : Nat → Nat} {M : Mm} {t r j k p c q : Nat} {v i b w : Int32}
theorem um_t {t' : Nat} (h : t' ≠ t) : um M t r j v t' = M t' := if_neg h
theorem um_x {r' j' : Nat} : um M t r j v t r' j' = if r' = r ∧ j' = j then v else M t r' j' := by
  unfold um
  rw [if_pos rfl]
  by_cases h : r' = r
  · rw [if_pos h]
    unfold upd
    by_cases h' : j' = j
    · rw [if_pos h', if_pos ⟨h, h'⟩]
    · rw [if_neg h', if_neg (fun q => h' q.2), h]
  · rw [if_neg h, if_neg (fun q => h q.1)]
theorem um_c {r' j' : Nat} (h : j' ≠ j) : um M t r j v t r' j' = M t r' j' := um_x.trans (if_neg (fun q => h q.2))
theorem um_e : um M t r j v t r j = v := um_x.trans (if_pos ⟨rfl, rfl⟩)
theorem um_self : um M t r j (M t r j) = M := by
  funext t' r' j'
  by_cases h : t' = t
  · subst h
    rw [um_x]
    split
    · next e => rw [e.1, e.2]
    · rfl
  · rw [um_t h]
theorem um_um : um (um M t r j v) t r j w = um M t r j w := by
  funext t' r' j'
  by_cases h : t' = t
  · subst h
    rw [um_x, um_x, um_x]
    split <;> rfl
  · rw [um_t h, um_t h, um_t h]
theorem vS_2 (hv : vS M n) (hj : 0 ≠ j) : vS (um M 2 p j v) n := by
  unfold vS vO at *
  simp only [um_t (show 6 ≠ 2 by decide), um_t (show 5 ≠ 2 by decide), um_t (show 4 ≠ 2 by decide), um_t (show 3 ≠ 2 by decide), um_c hj]
  exact hv
theorem vS_4 (hv : vS M n) (hj : 0 ≠ j) : vS (um M 4 p j v) n := by
  unfold vS vO at *
  simp only [um_t (show 6 ≠ 4 by decide), um_t (show 5 ≠ 4 by decide), um_t (show 2 ≠ 4 by decide), um_t (show 3 ≠ 4 by decide), um_c hj]
  exact hv
theorem vS_40 (hv : vS M n) (hx : vx v (n 2)) : vS (um M 4 p 0 v) n := by
  unfold vS vO at *
  simp only [um_t (show 6 ≠ 4 by decide), um_t (show 5 ≠ 4 by decide), um_t (show 2 ≠ 4 by decide), um_t (show 3 ≠ 4 by decide)]
  refine ⟨hv.1, hv.2.1, fun c hc => ?_, hv.2.2.2⟩
  rw [um_x]
  split
  · exact hx
  · exact hv.2.2.1 c hc
theorem vS_5 (hv : vS M n) (hj : 0 ≠ j) (hj2 : 2 ≠ j) : vS (um M 5 p j v) n := by
  unfold vS vO at *
  simp only [um_t (show 6 ≠ 5 by decide), um_t (show 4 ≠ 5 by decide), um_t (show 2 ≠ 5 by decide), um_t (show 3 ≠ 5 by decide), um_c hj, um_c hj2]
  exact hv
theorem vS_50 (hv : vS M n) (hx : v < 0 ∨ vx v (n 2)) : vS (um M 5 p 0 v) n := by
  unfold vS vO at *
  simp only [um_t (show 6 ≠ 5 by decide), um_t (show 4 ≠ 5 by decide), um_t (show 2 ≠ 5 by decide), um_t (show 3 ≠ 5 by decide), um_c (show 2 ≠ 0 by decide)]
  refine ⟨hv.1, fun c hc => ⟨(hv.2.1 c hc).1, ?_⟩, hv.2.2⟩
  rw [um_x]
  split
  · exact hx
  · exact (hv.2.1 c hc).2
theorem vS_0 (hv : vS M n) : vS (um M 0 p j v) n := by
  unfold vS vO at *
  simp only [um_t (show 6 ≠ 0 by decide), um_t (show 5 ≠ 0 by decide), um_t (show 4 ≠ 0 by decide), um_t (show 2 ≠ 0 by decide), um_t (show 3 ≠ 0 by decide)]
  exact hv
theorem lpI {J S T : Type} {Y : J → Nat → S → T} {I : S → Prop} {m : Nat} {f : Nat → S → S} (step : ∀ j k a, k < m → I a → (∃ j', Y j k a = Y j' (k + 1) (f k a)) ∧ I (f k a)) (j : J) (a : S) (hI : I a) : (∃ j', Y j 0 a = Y j' m (itr f 0 m a)) ∧ I (itr f 0 m a) := by
  suffices key : ∀ q j k a, k + q = m → I a → (∃ j', Y j k a = Y j' m (itr f k q a)) ∧ I (itr f k q a) from key m j 0 a (Nat.zero_add m) hI
  intro q
  induction q with
  | zero => intro j k a e hI; rw [Nat.add_zero] at e; rw [e]; exact ⟨⟨j, rfl⟩, hI⟩
  | succ q ih =>
    intro j k a e hI
    obtain ⟨⟨j1, e1⟩, hI1⟩ := step j k a (by omega) hI
    obtain ⟨⟨j2, e2⟩, hI2⟩ := ih j1 (k + 1) (f k a) (by omega) hI1
    exact ⟨⟨j2, e1.trans e2⟩, hI2⟩
def sFa (M : Mm) (k p : Nat) : Int32 := if nI p ≤ M 3 k 0 + M 0 0 1 then M 3 k 0 + M 0 0 1 - nI p else nI p - M 3 k 0 - M 0 0 1
def sC1 (k p : Nat) (M : Mm) : Mm := if M 3 k 3 < sFa M k p then M else if M 3 k 1 ≤ sFa M k p then M else if ¬ M 2 p 3 = 0 then M else um M 2 p 1 (M 2 p 1 + (M 3 k 1 - sFa M k p))
def sC2 (n : Nat → Nat) (k : Nat) (M : Mm) : Mm := if M 0 0 0 - M 0 0 0 / M 3 k 2 * M 3 k 2 = 0 then itr (sC1 k) 0 (n 2) M else M
theorem sC1_I {M0 : Mm} (hI : M 0 = M0 0 ∧ M 3 = M0 3 ∧ vS M n) : sC1 k p M 0 = M0 0 ∧ sC1 k p M 3 = M0 3 ∧ vS (sC1 k p M) n := by
  unfold sC1
  split
  · exact hI
  split
  · exact hI
  split
  · exact hI
  exact ⟨(um_t (by decide)).trans hI.1, (um_t (by decide)).trans hI.2.1, vS_2 hI.2.2 (by decide)⟩
theorem m131_1 (g : gS h s K X D n) (hk : k < n 3) (hp : p < n 2) (hv : vS M n) (hz : M 0 0 0 - M 0 0 0 / M 3 k 2 * M 3 k 2 = 0) {j : Option Value} : ∃ j', xe (ixP fv) (d + 5) 131 23 [some (.ref s), some (.ref (X 3)), some (.int (nI (n 3))), some (.int (nI k)), some (.ref (D 3 k)), some (.int (nI p)), j] [] (wS h K X M) = xe (ixP fv) (d + 5) 131 23 [some (.ref s), some (.ref (X 3)), some (.int (nI (n 3))), some (.int (nI k)), some (.ref (D 3 k)), some (.int (nI (p + 1))), j'] [] (wS h K X (sC1 k p M)) := by
  have h1 := gk g (t := 2) (by decide) (by decide) hp
  have h2 := hv.2.2.2.1 k hk
  refine ⟨some (.int (sFa M k p)), ?_⟩
  have e0 : xe (ixP fv) (d + 5) 131 45 [some (.ref s), some (.ref (X 3)), some (.int (nI (n 3))), some (.int (nI k)), some (.ref (D 3 k)), some (.int (nI p)), j] [] (wS h K X M) = xe (ixP fv) (d + 5) 131 88 [some (.ref s), some (.ref (X 3)), some (.int (nI (n 3))), some (.int (nI k)), some (.ref (D 3 k)), some (.int (nI p)), some (.int (sFa M k p))] [] (wS h K X M) := by
    unfold sFa
    by_cases c1 : nI p ≤ M 3 k 0 + M 0 0 1 <;> simp only [q131_45, q131_47, q131_49, q131_50, q131_51, q131_52, q131_55, q131_56, q131_59, q131_61, q131_63, q131_64, q131_65, q131_66, q131_67, q131_70, q131_71, q131_74, q131_76, q131_77, q131_78, q131_79, q131_82, q131_83, q131_85, q131_86, i10, eq_self, ft0, ft1, b01_ft, k1r, k1i, xG_some, xH_some, xC_v, xC_n, if_true, if_false, not_true_eq_false, not_false_eq_true, ix_st, ix_st2, List.getElem?_cons_succ, List.getElem?_cons_zero, List.set_cons_succ, List.set_cons_zero, Value.category, List.map_cons, List.map_nil, List.sum_cons, List.sum_nil, Nat.reduceAdd, Nat.reduceLeDiff, Nat.reduceEqDiff, Nat.zero_le, reduceCtorEq, reduceIte, xit, b01_z, b01_o, b01_t, b01_f, Bool.not_eq_true, Bool.true_eq_false, Bool.false_eq_true, not_true, not_false_eq_true, eq_self, c3_0 g hk, rS1 g, c1]
  unfold sC1
  have S1 : xe (ixP fv) (d + 5) 131 23 [some (.ref s), some (.ref (X 3)), some (.int (nI (n 3))), some (.int (nI k)), some (.ref (D 3 k)), some (.int (nI p)), j] [] (wS h K X M) = xe (ixP fv) (d + 5) 131 88 [some (.ref s), some (.ref (X 3)), some (.int (nI (n 3))), some (.int (nI k)), some (.ref (D 3 k)), some (.int (nI p)), some (.int (sFa M k p))] [] (wS h K X M) := by
    rw [← e0]
    simp only [q131_23 (x := nI p), q131_25, q131_26, q131_29, q131_30, q131_33, q131_34, q131_37, q131_39, q131_40, q131_41 h2, q131_42, i10, eq_self, ft0, ft1, b01_ft, k1r, k1i, xG_some, xH_some, xC_v, xC_n, if_true, if_false, not_true_eq_false, not_false_eq_true, ix_st, ix_st2, List.getElem?_cons_succ, List.getElem?_cons_zero, List.set_cons_succ, List.set_cons_zero, Value.category, List.map_cons, List.map_nil, List.sum_cons, List.sum_nil, Nat.reduceAdd, Nat.reduceLeDiff, Nat.reduceEqDiff, Nat.zero_le, reduceCtorEq, reduceIte, xit, b01_z, b01_o, b01_t, b01_f, Bool.not_eq_true, Bool.true_eq_false, Bool.false_eq_true, not_true, not_false_eq_true, eq_self, rS5 g, lR2 g, rS0 g, c3_2 g hk, h1, hz]
  rw [S1]
  by_cases c2 : M 3 k 3 < sFa M k p
  · simp only [q131_88, q131_90, q131_92, q131_93, q131_94, q131_137, q131_140, i10, eq_self, ft0, ft1, b01_ft, k1r, k1i, xG_some, xH_some, xC_v, xC_n, if_true, if_false, not_true_eq_false, not_false_eq_true, ix_st, ix_st2, List.getElem?_cons_succ, List.getElem?_cons_zero, List.set_cons_succ, List.set_cons_zero, Value.category, List.map_cons, List.map_nil, List.sum_cons, List.sum_nil, Nat.reduceAdd, Nat.reduceLeDiff, Nat.reduceEqDiff, Nat.zero_le, reduceCtorEq, reduceIte, xit, b01_z, b01_o, b01_t, b01_f, Bool.not_eq_true, Bool.true_eq_false, Bool.false_eq_true, not_true, not_false_eq_true, eq_self, nI_1, c3_3 g hk, c2]
  by_cases c3 : M 3 k 1 ≤ sFa M k p
  · simp only [q131_88, q131_90, q131_92, q131_93, q131_94, q131_97, q131_99, q131_101, q131_102, q131_103, q131_137, q131_140, i10, eq_self, ft0, ft1, b01_ft, k1r, k1i, xG_some, xH_some, xC_v, xC_n, if_true, if_false, not_true_eq_false, not_false_eq_true, ix_st, ix_st2, List.getElem?_cons_succ, List.getElem?_cons_zero, List.set_cons_succ, List.set_cons_zero, Value.category, List.map_cons, List.map_nil, List.sum_cons, List.sum_nil, Nat.reduceAdd, Nat.reduceLeDiff, Nat.reduceEqDiff, Nat.zero_le, reduceCtorEq, reduceIte, xit, b01_z, b01_o, b01_t, b01_f, Bool.not_eq_true, Bool.true_eq_false, Bool.false_eq_true, not_true, not_false_eq_true, eq_self, nI_1, c3_3 g hk, c3_1 g hk, c2, c3]
  by_cases c4 : M 2 p 3 = 0
  · simp only [q131_88, q131_90, q131_92, q131_93, q131_94, q131_97, q131_99, q131_101, q131_102, q131_103, q131_106, q131_107, q131_110, q131_112, q131_113, q131_114, q131_115, q131_118, q131_119, q131_122, q131_124, q131_125, q131_126, q131_127, q131_128, q131_130, q131_131, q131_132, q131_134, q131_135, q131_136, q131_137, q131_140, i10, eq_self, ft0, ft1, b01_ft, k1r, k1i, xG_some, xH_some, xC_v, xC_n, if_true, if_false, not_true_eq_false, not_false_eq_true, ix_st, ix_st2, List.getElem?_cons_succ, List.getElem?_cons_zero, List.set_cons_succ, List.set_cons_zero, Value.category, List.map_cons, List.map_nil, List.sum_cons, List.sum_nil, Nat.reduceAdd, Nat.reduceLeDiff, Nat.reduceEqDiff, Nat.zero_le, reduceCtorEq, reduceIte, xit, b01_z, b01_o, b01_t, b01_f, Bool.not_eq_true, Bool.true_eq_false, Bool.false_eq_true, not_true, not_false_eq_true, eq_self, nI_1, c3_3 g hk, c3_1 g hk, rS5 g, rQ2 g hp, c2_3 g hp, c2_1 g hp, u2_1 g hp, c2, c3, c4]
  · simp only [q131_88, q131_90, q131_92, q131_93, q131_94, q131_97, q131_99, q131_101, q131_102, q131_103, q131_106, q131_107, q131_110, q131_112, q131_113, q131_114, q131_115, q131_137, q131_140, i10, eq_self, ft0, ft1, b01_ft, k1r, k1i, xG_some, xH_some, xC_v, xC_n, if_true, if_false, not_true_eq_false, not_false_eq_true, ix_st, ix_st2, List.getElem?_cons_succ, List.getElem?_cons_zero, List.set_cons_succ, List.set_cons_zero, Value.category, List.map_cons, List.map_nil, List.sum_cons, List.sum_nil, Nat.reduceAdd, Nat.reduceLeDiff, Nat.reduceEqDiff, Nat.zero_le, reduceCtorEq, reduceIte, xit, b01_z, b01_o, b01_t, b01_f, Bool.not_eq_true, Bool.true_eq_false, Bool.false_eq_true, not_true, not_false_eq_true, eq_self, nI_1, c3_3 g hk, c3_1 g hk, rS5 g, rQ2 g hp, c2_3 g hp, c2, c3, c4]
theorem m131_2 (g : gS h s K X D n) (hk : k < n 3) (hv : vS M n) {j4 j5 j6 : Option Value} : (∃ j5' j6', xe (ixP fv) (d + 5) 131 10 [some (.ref s), some (.ref (X 3)), some (.int (nI (n 3))), some (.int (nI k)), j4, j5, j6] [] (wS h K X M) = xe (ixP fv) (d + 5) 131 10 [some (.ref s), some (.ref (X 3)), some (.int (nI (n 3))), some (.int (nI (k + 1))), some (.ref (D 3 k)), j5', j6'] [] (wS h K X (sC2 n k M))) ∧ vS (sC2 n k M) n := by
  have h1 := gk g (t := 3) (by decide) (by decide) hk
  have h2 := hv.2.2.2.1 k hk
  have e0 : xe (ixP fv) (d + 5) 131 10 [some (.ref s), some (.ref (X 3)), some (.int (nI (n 3))), some (.int (nI k)), j4, j5, j6] [] (wS h K X M) = xe (ixP fv) (d + 5) 131 23 [some (.ref s), some (.ref (X 3)), some (.int (nI (n 3))), some (.int (nI k)), some (.ref (D 3 k)), some (.int 0), j6] [] (wS h K X M) := by
    simp only [q131_10 (x := nI k), q131_11, q131_12, q131_15, q131_16, q131_17, q131_18, q131_20, q131_21, i10, eq_self, ft0, ft1, b01_ft, k1r, k1i, xG_some, xH_some, xC_v, xC_n, if_true, if_false, not_true_eq_false, not_false_eq_true, ix_st, ix_st2, List.getElem?_cons_succ, List.getElem?_cons_zero, List.set_cons_succ, List.set_cons_zero, Value.category, List.map_cons, List.map_nil, List.sum_cons, List.sum_nil, Nat.reduceAdd, Nat.reduceLeDiff, Nat.reduceEqDiff, Nat.zero_le, reduceCtorEq, reduceIte, xit, b01_z, b01_o, b01_t, b01_f, Bool.not_eq_true, Bool.true_eq_false, Bool.false_eq_true, not_true, not_false_eq_true, eq_self, rQ3 g hk, h1]
  rw [e0]
  unfold sC2
  by_cases c1 : M 0 0 0 - M 0 0 0 / M 3 k 2 * M 3 k 2 = 0
  · rw [if_pos c1]
    obtain ⟨⟨j', e⟩, hI⟩ := lpI (Y := fun j p a => xe (ixP fv) (d + 5) 131 23 [some (.ref s), some (.ref (X 3)), some (.int (nI (n 3))), some (.int (nI k)), some (.ref (D 3 k)), some (.int (nI p)), j] [] (wS h K X a)) (I := fun a => a 0 = M 0 ∧ a 3 = M 3 ∧ vS a n) (m := n 2) (f := sC1 k) (fun j p a hp hI => ⟨m131_1 g hk hp hI.2.2 (by rw [hI.1, hI.2.1]; exact c1), sC1_I hI⟩) j6 M ⟨rfl, rfl, hv⟩
    refine ⟨⟨some (.int (nI (n 2))), j', e.trans ?_⟩, hI.2.2⟩
    simp only [q131_23, q131_25, q131_26, q131_29, q131_30, q131_143, q131_146, i10, eq_self, ft0, ft1, b01_ft, k1r, k1i, xG_some, xH_some, xC_v, xC_n, if_true, if_false, not_true_eq_false, not_false_eq_true, ix_st, ix_st2, List.getElem?_cons_succ, List.getElem?_cons_zero, List.set_cons_succ, List.set_cons_zero, Value.category, List.map_cons, List.map_nil, List.sum_cons, List.sum_nil, Nat.reduceAdd, Nat.reduceLeDiff, Nat.reduceEqDiff, Nat.zero_le, reduceCtorEq, reduceIte, xit, b01_z, b01_o, b01_t, b01_f, Bool.not_eq_true, Bool.true_eq_false, Bool.false_eq_true, not_true, not_false_eq_true, eq_self, nI_1, rS5 g, lR2 g, gz]
  · rw [if_neg c1]
    refine ⟨⟨some (.int 0), j6, ?_⟩, hv⟩
    by_cases c2 : nI (n 2) ≤ 0
    · simp only [q131_23, q131_25, q131_26, q131_29, q131_30, q131_143, q131_146, i10, eq_self, ft0, ft1, b01_ft, k1r, k1i, xG_some, xH_some, xC_v, xC_n, if_true, if_false, not_true_eq_false, not_false_eq_true, ix_st, ix_st2, List.getElem?_cons_succ, List.getElem?_cons_zero, List.set_cons_succ, List.set_cons_zero, Value.category, List.map_cons, List.map_nil, List.sum_cons, List.sum_nil, Nat.reduceAdd, Nat.reduceLeDiff, Nat.reduceEqDiff, Nat.zero_le, reduceCtorEq, reduceIte, xit, b01_z, b01_o, b01_t, b01_f, Bool.not_eq_true, Bool.true_eq_false, Bool.false_eq_true, not_true, not_false_eq_true, eq_self, nI_1, rS5 g, lR2 g, c2]
    · simp only [q131_23, q131_25, q131_26, q131_29, q131_30, q131_33, q131_34, q131_37, q131_39, q131_40, q131_41 h2, q131_42, q131_143, q131_146, i10, eq_self, ft0, ft1, b01_ft, k1r, k1i, xG_some, xH_some, xC_v, xC_n, if_true, if_false, not_true_eq_false, not_false_eq_true, ix_st, ix_st2, List.getElem?_cons_succ, List.getElem?_cons_zero, List.set_cons_succ, List.set_cons_zero, Value.category, List.map_cons, List.map_nil, List.sum_cons, List.sum_nil, Nat.reduceAdd, Nat.reduceLeDiff, Nat.reduceEqDiff, Nat.zero_le, reduceCtorEq, reduceIte, xit, b01_z, b01_o, b01_t, b01_f, Bool.not_eq_true, Bool.true_eq_false, Bool.false_eq_true, not_true, not_false_eq_true, eq_self, nI_1, rS5 g, lR2 g, rS0 g, c3_2 g hk, c1, c2]
def sP1 (M : Mm) (n : Nat → Nat) : Mm := itr (sC2 n) 0 (n 3) M
theorem m131_3 (g : gS h s K X D n) (hv : vS M n) : (∃ l2 l3 l4 l5 l6, xe (ixP fv) (d + 5) 131 0 [some (.ref s), none, none, none, none, none, none] [] (wS h K X M) = xe (ixP fv) (d + 5) 131 151 [some (.ref s), some (.int 0), l2, l3, l4, l5, l6] [] (wS h K X (sP1 M n))) ∧ vS (sP1 M n) n := by
  obtain ⟨⟨j', e⟩, hI⟩ := lpI (J := Option Value × Option Value × Option Value) (Y := fun j k a => xe (ixP fv) (d + 5) 131 10 [some (.ref s), some (.ref (X 3)), some (.int (nI (n 3))), some (.int (nI k)), j.1, j.2.1, j.2.2] [] (wS h K X a)) (I := fun a => vS a n) (m := n 3) (f := sC2 n) (fun j k a hk hI => by
    obtain ⟨⟨j5, j6, e⟩, h2⟩ := m131_2 (fv := fv) (d := d) (j4 := j.1) (j5 := j.2.1) (j6 := j.2.2) g hk hI
    exact ⟨⟨(some (.ref (D 3 k)), j5, j6), e⟩, h2⟩) (none, none, none) M hv
  refine ⟨⟨some (.int (nI (n 3))), some (.int (nI (n 3))), j'.1, j'.2.1, j'.2.2, ?_⟩, hI⟩
  have e0 : xe (ixP fv) (d + 5) 131 0 [some (.ref s), none, none, none, none, none, none] [] (wS h K X M) = xe (ixP fv) (d + 5) 131 10 [some (.ref s), some (.ref (X 3)), some (.int (nI (n 3))), some (.int 0), none, none, none] [] (wS h K X M) := by
    simp only [q131_0, q131_1, q131_4, q131_5, q131_6, q131_7, q131_8, q131_9, i10, eq_self, ft0, ft1, b01_ft, k1r, k1i, xG_some, xH_some, xC_v, xC_n, if_true, if_false, not_true_eq_false, not_false_eq_true, ix_st, ix_st2, List.getElem?_cons_succ, List.getElem?_cons_zero, List.set_cons_succ, List.set_cons_zero, Value.category, List.map_cons, List.map_nil, List.sum_cons, List.sum_nil, Nat.reduceAdd, Nat.reduceLeDiff, Nat.reduceEqDiff, Nat.zero_le, reduceCtorEq, reduceIte, xit, b01_z, b01_o, b01_t, b01_f, Bool.not_eq_true, Bool.true_eq_false, Bool.false_eq_true, not_true, not_false_eq_true, eq_self, rS6 g, lR3 g]
  rw [e0]
  refine e.trans ?_
  simp only [q131_10, q131_11, q131_12, q131_149, q131_150, i10, eq_self, ft0, ft1, b01_ft, k1r, k1i, xG_some, xH_some, xC_v, xC_n, if_true, if_false, not_true_eq_false, not_false_eq_true, ix_st, ix_st2, List.getElem?_cons_succ, List.getElem?_cons_zero, List.set_cons_succ, List.set_cons_zero, Value.category, List.map_cons, List.map_nil, List.sum_cons, List.sum_nil, Nat.reduceAdd, Nat.reduceLeDiff, Nat.reduceEqDiff, Nat.zero_le, reduceCtorEq, reduceIte, xit, b01_z, b01_o, b01_t, b01_f, Bool.not_eq_true, Bool.true_eq_false, Bool.false_eq_true, not_true, not_false_eq_true, eq_self, gz]
  rfl
def sF1 (n : Nat → Nat) (q : Nat) (M : Mm) : Mm := if sFl M n q 5 q 0 < 0 then sFl M n q else um (sFl M n q) 2 (sFl M n q 5 q 0).toNatClampNeg 1 (sFl M n q 2 (sFl M n q 5 q 0).toNatClampNeg 1 + sFl M n q 5 q 1)
theorem sBe_I (hn : n 2 < 2 ^ 31) : sBe M n w < 0 ∨ vx (sBe M n w) (n 2) := by
  unfold sBe
  suffices key : ∀ m b, m ≤ n 2 → (b < 0 ∨ vx b (n 2)) → (itd (sBs M n w) m b < 0 ∨ vx (itd (sBs M n w) m b) (n 2)) from key (n 2) (-1) (Nat.le_refl _) (Or.inl (by decide))
  intro m
  induction m with
  | zero => intro b _ h; exact h
  | succ m ih =>
    intro b hm hI
    refine ih _ (by omega) ?_
    have hv : vx (nI m) (n 2) := vx_nI (by omega) hn
    unfold sBs
    split
    · exact hI
    split
    · exact hI
    split
    · exact Or.inr hv
    split
    · exact hI
    · exact Or.inr hv
theorem sFl_I (hn : n 2 < 2 ^ 31) (hv : vS M n) : vS (sFl M n q) n := by
  unfold sFl
  split
  · exact hv
  split
  · exact vS_50 hv (sBe_I hn)
  · exact vS_50 (vS_5 hv (by decide) (by decide)) (sBe_I hn)
theorem m131_4 (g : gS h s K X D n) (hq : q < n 5) (hv : vS M n) {l2 l3 l4 l5 l6 : Option Value} : xe (ixP fv) (d + 5) 131 151 [some (.ref s), some (.int (nI q)), l2, l3, l4, l5, l6] [] (wS h K X M) = xe (ixP fv) (d + 5) 131 151 [some (.ref s), some (.int (nI (q + 1))), l2, l3, l4, l5, l6] [] (wS h K X (sF1 n q M)) ∧ vS (sF1 n q M) n := by
  have hn := gS_n g (t := 2) (by decide) (by decide)
  have h1 := gk g (t := 5) (by decide) (by decide) hq
  have hv1 : vS (sFl M n q) n := sFl_I (by omega) hv
  have e0 : xe (ixP fv) (d + 5) 131 151 [some (.ref s), some (.int (nI q)), l2, l3, l4, l5, l6] [] (wS h K X M) = xe (ixP fv) (d + 5) 131 165 [some (.ref s), some (.int (nI q)), l2, l3, l4, l5, l6] [] (wS h K X (sFl M n q)) := by
    simp only [q131_151 (x := nI q), q131_152, q131_153, q131_156, q131_157, q131_160, q131_161, q131_162, i10, eq_self, ft0, ft1, b01_ft, k1r, k1i, xG_some, xH_some, xC_v, xC_n, if_true, if_false, not_true_eq_false, not_false_eq_true, ix_st, ix_st2, List.getElem?_cons_succ, List.getElem?_cons_zero, List.set_cons_succ, List.set_cons_zero, Value.category, List.map_cons, List.map_nil, List.sum_cons, List.sum_nil, Nat.reduceAdd, Nat.reduceLeDiff, Nat.reduceEqDiff, Nat.zero_le, reduceCtorEq, reduceIte, xit, b01_z, b01_o, b01_t, b01_f, Bool.not_eq_true, Bool.true_eq_false, Bool.false_eq_true, not_true, not_false_eq_true, eq_self, rS8 g, lR5 g, isS g, m130 g hv hq, h1]
  rw [e0]
  unfold sF1
  have hx := (hv1.2.1 q hq).2
  revert hx hv1
  generalize sFl M n q = M1
  intro hv1 hx
  by_cases c1 : M1 5 q 0 < 0
  · refine ⟨?_, by rw [if_pos c1]; exact hv1⟩
    simp only [q131_165, q131_166, q131_169, q131_170, q131_171, q131_172, q131_173, q131_176, q131_177, q131_180, q131_181, q131_184, q131_185, q131_186, q131_187, q131_188, q131_189, q131_190, q131_191, q131_192, q131_193, q131_196, q131_197, q131_198, q131_199, q131_200, q131_201, q131_202, q131_205, i10, eq_self, ft0, ft1, b01_ft, k1r, k1i, xG_some, xH_some, xC_v, xC_n, if_true, if_false, not_true_eq_false, not_false_eq_true, ix_st, ix_st2, List.getElem?_cons_succ, List.getElem?_cons_zero, List.set_cons_succ, List.set_cons_zero, Value.category, List.map_cons, List.map_nil, List.sum_cons, List.sum_nil, Nat.reduceAdd, Nat.reduceLeDiff, Nat.reduceEqDiff, Nat.zero_le, reduceCtorEq, reduceIte, xit, b01_z, b01_o, b01_t, b01_f, Bool.not_eq_true, Bool.true_eq_false, Bool.false_eq_true, not_true, not_false_eq_true, eq_self, nI_1, rS8 g, rQ5 g hq, c5_0 g hq, c1]
  · have hx := hx.resolve_left c1
    refine ⟨?_, by rw [if_neg c1]; exact vS_2 hv1 (by decide)⟩
    simp only [q131_165, q131_166, q131_169, q131_170, q131_171, q131_172, q131_173, q131_176, q131_177, q131_180, q131_181, q131_184, q131_185, q131_186, q131_187, q131_188, q131_189, q131_190, q131_191, q131_192, q131_193, q131_196, q131_197, q131_198, q131_199, q131_200, q131_201, q131_202, q131_205, i10, eq_self, ft0, ft1, b01_ft, k1r, k1i, xG_some, xH_some, xC_v, xC_n, if_true, if_false, not_true_eq_false, not_false_eq_true, ix_st, ix_st2, List.getElem?_cons_succ, List.getElem?_cons_zero, List.set_cons_succ, List.set_cons_zero, Value.category, List.map_cons, List.map_nil, List.sum_cons, List.sum_nil, Nat.reduceAdd, Nat.reduceLeDiff, Nat.reduceEqDiff, Nat.zero_le, reduceCtorEq, reduceIte, xit, b01_z, b01_o, b01_t, b01_f, Bool.not_eq_true, Bool.true_eq_false, Bool.false_eq_true, not_true, not_false_eq_true, eq_self, nI_1, rS8 g, rS5 g, rQ5 g hq, rX2 g hx, c5_0 g hq, c5_1 g hq, c2_1 g hx.2, u2_1 g hx.2, c1]
def sP2 (M : Mm) (n : Nat → Nat) : Mm := itr (sF1 n) 0 (n 5) M
theorem m131_5 (g : gS h s K X D n) (hv : vS M n) {l2 l3 l4 l5 l6 : Option Value} : xe (ixP fv) (d + 5) 131 151 [some (.ref s), some (.int 0), l2, l3, l4, l5, l6] [] (wS h K X M) = xe (ixP fv) (d + 5) 131 210 [some (.ref s), some (.int 0), l2, l3, l4, l5, l6] [] (wS h K X (sP2 M n)) ∧ vS (sP2 M n) n := by
  obtain ⟨⟨j', e⟩, hI⟩ := lpI (J := Unit) (Y := fun _ q a => xe (ixP fv) (d + 5) 131 151 [some (.ref s), some (.int (nI q)), l2, l3, l4, l5, l6] [] (wS h K X a)) (I := fun a => vS a n) (m := n 5) (f := sF1 n) (fun j q a hq hI => ⟨⟨(), (m131_4 g hq hI).1⟩, (m131_4 (fv := fv) (d := d) (l2 := none) (l3 := none) (l4 := none) (l5 := none) (l6 := none) g hq hI).2⟩) () M hv
  refine ⟨e.trans ?_, hI⟩
  simp only [q131_151, q131_152, q131_153, q131_156, q131_157, q131_208, q131_209, i10, eq_self, ft0, ft1, b01_ft, k1r, k1i, xG_some, xH_some, xC_v, xC_n, if_true, if_false, not_true_eq_false, not_false_eq_true, ix_st, ix_st2, List.getElem?_cons_succ, List.getElem?_cons_zero, List.set_cons_succ, List.set_cons_zero, Value.category, List.map_cons, List.map_nil, List.sum_cons, List.sum_nil, Nat.reduceAdd, Nat.reduceLeDiff, Nat.reduceEqDiff, Nat.zero_le, reduceCtorEq, reduceIte, xit, b01_z, b01_o, b01_t, b01_f, Bool.not_eq_true, Bool.true_eq_false, Bool.false_eq_true, not_true, not_false_eq_true, eq_self, rS8 g, lR5 g, gz]
  rfl
end SIMP
