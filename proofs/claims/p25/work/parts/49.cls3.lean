/-! THE CLASS: mean and digest (written by gen49.py). -/
theorem nn_of {a : UInt64} (h : FP.Core.dIsNaN a = false) : a &&& 0x7fffffffffffffff ≤ 0x7ff0000000000000 := by
  have h1 : ¬ 9218868437227405312 < a.toNat % 2 ^ 63 := fun q => by rw [(FP.Core.isNaN_bits a).mpr q] at h; cases h
  rw [UInt64.le_iff_toNat_le, UInt64.toNat_and, show (0x7fffffffffffffff : UInt64).toNat = 2 ^ 63 - 1 from rfl, Nat.and_two_pow_sub_one_eq_mod]
  exact Nat.le_of_not_lt h1
theorem nn_div {x y : Int32} (hy : y ≠ 0) : FP.Core.dIsNaN (FP.Core.ddiv (FP.Core.i2d x) (FP.Core.i2d y)) = false := by
  refine FP.Core.ddiv_out ?_ (FP.Core.i2d_fin y) (fun q => FP.Core.i2d_ne_zero hy ((FP.Core.zero_bits2 _).mp q))
  cases q : FP.Core.dIsNaN (FP.Core.i2d x) with
  | false => rfl
  | true =>
    have h1 := (FP.Core.isNaN_bits _).mp q
    have h2 := (FP.Core.fin_bits _).mp (FP.Core.i2d_fin x)
    omega
section DIG
variable {fv : Value} {d : Nat} {h : ix_H} {b tp rd pl t t2 tb k : Nat} {lea len : Int32} {Q A : Mem} {p i e v a n c : Int32} {w : Int64}
def meL (Q A : Mem) : UInt64 := if plL Q A ≤ 0 then 0 else FP.ddiv (FP.i2d (adL Q A)) (FP.i2d (plL Q A))
theorem m110 (g : gW h b tp rd pl t t2 tb lea len) : xe (ixP fv) (d + 3) 110 0 [some (.ref b), none] [] (wAr h pl t Q A) = some (.inl (some (.double (meL Q A))), wAr h pl t Q A) := by
  unfold meL
  by_cases c1 : plL Q A ≤ 0
  · simp only [q110_0, q110_1, q110_4, q110_7, q110_8, q110_9, q110_12, q110_13, q110_16, q110_19, q110_20, q110_21, q110_22, q110_23, q110_26, q110_27 (st := []), i10, eq_self, ft0, ft1, b01_ft, k1r, k1i, xG_some, xH_some, xC_v, xC_n, if_true, if_false, not_true_eq_false, not_false_eq_true, ix_st, ix_st2, List.getElem?_cons_succ, List.getElem?_cons_zero, List.set_cons_succ, List.set_cons_zero, Value.category, List.map_cons, List.map_nil, List.sum_cons, List.sum_nil, Nat.reduceAdd, Nat.reduceLeDiff, Nat.reduceEqDiff, Nat.zero_le, reduceCtorEq, reduceIte, xit, b01_z, b01_o, b01_t, b01_f, Bool.not_eq_true, Bool.true_eq_false, Bool.false_eq_true, not_true, not_false_eq_true, eq_self, rW2 g, isAA g.1, m23 g.1, c1]
  · have hne : plL Q A ≠ 0 := fun q => c1 (by rw [q]; decide)
    have hn : FP.ddiv (FP.i2d (adL Q A)) (FP.i2d (plL Q A)) &&& 0x7fffffffffffffff ≤ 0x7ff0000000000000 := nn_of (nn_div (x := adL Q A) hne)
    simp only [q110_0, q110_1, q110_4, q110_7, q110_8, q110_9, q110_12, q110_13, q110_16, q110_19, q110_20, q110_21, q110_23, q110_26, q110_27 (st := []), q110_22 hn, i10, eq_self, ft0, ft1, b01_ft, k1r, k1i, xG_some, xH_some, xC_v, xC_n, if_true, if_false, not_true_eq_false, not_false_eq_true, ix_st, ix_st2, List.getElem?_cons_succ, List.getElem?_cons_zero, List.set_cons_succ, List.set_cons_zero, Value.category, List.map_cons, List.map_nil, List.sum_cons, List.sum_nil, Nat.reduceAdd, Nat.reduceLeDiff, Nat.reduceEqDiff, Nat.zero_le, reduceCtorEq, reduceIte, xit, b01_z, b01_o, b01_t, b01_f, Bool.not_eq_true, Bool.true_eq_false, Bool.false_eq_true, not_true, not_false_eq_true, eq_self, rW2 g, isAA g.1, m23 g.1, m22 g.1, c1]
def dgs (w : Int64) (l : List Int32) : Int64 := l.foldl (fun w x => w * 31 + x.toInt64) w
theorem m111_c (g : gW h b tp rd pl t t2 tb lea len) {l1 l2 l3 l4 : Option Value} : xe (ixP fv) (d + 6) 111 0 [some (.ref b), l1, l2, l3, l4] [] (wAr h pl t Q A) = xe (ixP fv) (d + 6) 111 33 [some (.ref b), some (.long (dgs 839 [ctL Q A len 0, ctL Q A len 1, ctL Q A len 2, ctL Q A len 3, ctL Q A len 4, ctL Q A len 5, ctL Q A len 6, ctL Q A len 7, ctL Q A len 8, ctL Q A len 9, ctL Q A len 10, ctL Q A len 11, ctL Q A len 12, ctL Q A len 13])), none, some (.int 0), l4] [] (wAr h pl t Q A) := by
  simp only [q111_0, q111_3, q111_4, q111_5, q111_6, q111_7, q111_9, q111_12, q111_13, q111_16, q111_17, q111_18, q111_19, q111_22, q111_23, q111_24, q111_25, q111_28, q111_31, q111_32, i10, eq_self, ft0, ft1, b01_ft, k1r, k1i, xG_some, xH_some, xC_v, xC_n, if_true, if_false, not_true_eq_false, not_false_eq_true, ix_st, ix_st2, List.getElem?_cons_succ, List.getElem?_cons_zero, List.set_cons_succ, List.set_cons_zero, Value.category, List.map_cons, List.map_nil, List.sum_cons, List.sum_nil, Nat.reduceAdd, Nat.reduceLeDiff, Nat.reduceEqDiff, Nat.zero_le, reduceCtorEq, reduceIte, xit, b01_z, b01_o, b01_t, b01_f, Bool.not_eq_true, Bool.true_eq_false, Bool.false_eq_true, not_true, not_false_eq_true, eq_self, isW g, m94_0 g, m94_1 g, m94_2 g, m94_3 g, m94_4 g, m94_5 g, m94_6 g, m94_7 g, m94_8 g, m94_9 g, m94_10 g, m94_11 g, m94_12 g, m94_13 g, Int32.reduceAdd, Int32.reduceLE, Int32.reduceLT]
  rfl
theorem m111_p (g : gW h b tp rd pl t t2 tb lea len) (hi : ¬ Q 0 1 ≤ i) (hp : inL i (Q 0 1) = false) {l4 : Option Value} : xe (ixP fv) (d + 6) 111 33 [some (.ref b), some (.long w), none, some (.int i), l4] [] (wAr h pl t Q A) = xe (ixP fv) (d + 6) 111 33 [some (.ref b), some (.long (dgs w [pnL Q A i 0, pnL Q A i 1, pnL Q A i 2, pnL Q A i 3, pnL Q A i 4, pnL Q A i 5, pnL Q A i 6])), none, some (.int (i + 1)), some (.int 7)] [] (wAr h pl t Q A) := by
  simp only [q111_33 (x := i), q111_34, q111_35, q111_38, q111_41, q111_44, q111_47, q111_48, q111_50, q111_52, q111_54, q111_57, q111_58, q111_61, q111_62, q111_63, q111_64, q111_66, q111_69, q111_70, q111_71, q111_72, q111_75, q111_78, q111_81, i10, eq_self, ft0, ft1, b01_ft, k1r, k1i, xG_some, xH_some, xC_v, xC_n, if_true, if_false, not_true_eq_false, not_false_eq_true, ix_st, ix_st2, List.getElem?_cons_succ, List.getElem?_cons_zero, List.set_cons_succ, List.set_cons_zero, Value.category, List.map_cons, List.map_nil, List.sum_cons, List.sum_nil, Nat.reduceAdd, Nat.reduceLeDiff, Nat.reduceEqDiff, Nat.zero_le, reduceCtorEq, reduceIte, xit, b01_z, b01_o, b01_t, b01_f, Bool.not_eq_true, Bool.true_eq_false, Bool.false_eq_true, not_true, not_false_eq_true, eq_self, hi, rW2 g, rAa0 g.1, rAp4 g.1, isW g, m95_0 g hp, m95_1 g hp, m95_2 g hp, m95_3 g hp, m95_4 g hp, m95_5 g hp, m95_6 g hp, Int32.reduceAdd, Int32.reduceLE, Int32.reduceLT]
  rfl
theorem m111_b (g : gW h b tp rd pl t t2 tb lea len) (hi : ¬ Q 0 0 ≤ i) (hp : inL i (Q 0 0) = false) {l4 : Option Value} : xe (ixP fv) (d + 6) 111 86 [some (.ref b), some (.long w), none, some (.int i), l4] [] (wAr h pl t Q A) = xe (ixP fv) (d + 6) 111 86 [some (.ref b), some (.long (dgs w [byL Q A i 0, byL Q A i 1, byL Q A i 2, byL Q A i 3, byL Q A i 4])), none, some (.int (i + 1)), some (.int 5)] [] (wAr h pl t Q A) := by
  simp only [q111_86 (x := i), q111_87, q111_88, q111_91, q111_94, q111_97, q111_100, q111_101, q111_103, q111_105, q111_106, q111_109, q111_110, q111_113, q111_114, q111_115, q111_116, q111_118, q111_121, q111_122, q111_123, q111_124, q111_127, q111_130, q111_133, i10, eq_self, ft0, ft1, b01_ft, k1r, k1i, xG_some, xH_some, xC_v, xC_n, if_true, if_false, not_true_eq_false, not_false_eq_true, ix_st, ix_st2, List.getElem?_cons_succ, List.getElem?_cons_zero, List.set_cons_succ, List.set_cons_zero, Value.category, List.map_cons, List.map_nil, List.sum_cons, List.sum_nil, Nat.reduceAdd, Nat.reduceLeDiff, Nat.reduceEqDiff, Nat.zero_le, reduceCtorEq, reduceIte, xit, b01_z, b01_o, b01_t, b01_f, Bool.not_eq_true, Bool.true_eq_false, Bool.false_eq_true, not_true, not_false_eq_true, eq_self, hi, rW2 g, rAa0 g.1, rAp0 g.1, isW g, m96_0 g hp, m96_1 g hp, m96_2 g hp, m96_3 g hp, m96_4 g hp, Int32.reduceAdd, Int32.reduceLE, Int32.reduceLT]
  rfl
theorem m111_k (g : gW h b tp rd pl t t2 tb lea len) (hi : ¬ Q 0 3 ≤ i) (hp : inL i (Q 0 3) = false) {l4 : Option Value} : xe (ixP fv) (d + 6) 111 138 [some (.ref b), some (.long w), none, some (.int i), l4] [] (wAr h pl t Q A) = xe (ixP fv) (d + 6) 111 138 [some (.ref b), some (.long (dgs w [crL Q A i 0, crL Q A i 1, crL Q A i 2, crL Q A i 3, crL Q A i 4, crL Q (goL Q A i).2 i 5])), none, some (.int (i + 1)), some (.int 6)] [] (wAr h pl t Q (goL Q A i).2) := by
  simp only [q111_138 (x := i), q111_139, q111_140, q111_143, q111_146, q111_149, q111_152, q111_153, q111_155, q111_157, q111_159, q111_162, q111_163, q111_166, q111_167, q111_168, q111_169, q111_171, q111_174, q111_175, q111_176, q111_177, q111_180, q111_183, q111_186, i10, eq_self, ft0, ft1, b01_ft, k1r, k1i, xG_some, xH_some, xC_v, xC_n, if_true, if_false, not_true_eq_false, not_false_eq_true, ix_st, ix_st2, List.getElem?_cons_succ, List.getElem?_cons_zero, List.set_cons_succ, List.set_cons_zero, Value.category, List.map_cons, List.map_nil, List.sum_cons, List.sum_nil, Nat.reduceAdd, Nat.reduceLeDiff, Nat.reduceEqDiff, Nat.zero_le, reduceCtorEq, reduceIte, xit, b01_z, b01_o, b01_t, b01_f, Bool.not_eq_true, Bool.true_eq_false, Bool.false_eq_true, not_true, not_false_eq_true, eq_self, hi, rW2 g, rAa0 g.1, rAp11 g.1, isW g, m97_0 g hp, m97_1 g hp, m97_2 g hp, m97_3 g hp, m97_4 g hp, m97_5 g hp, Int32.reduceAdd, Int32.reduceLE, Int32.reduceLT]
  rfl
theorem m111_f (g : gW h b tp rd pl t t2 tb lea len) (hi : ¬ Q 0 4 ≤ i) (hp : inL i (Q 0 4) = false) {l4 : Option Value} : xe (ixP fv) (d + 6) 111 191 [some (.ref b), some (.long w), none, some (.int i), l4] [] (wAr h pl t Q A) = xe (ixP fv) (d + 6) 111 191 [some (.ref b), some (.long (dgs w [fkL Q A i 0, fkL Q A i 1, fkL Q A i 2, fkL Q A i 3])), none, some (.int (i + 1)), some (.int 4)] [] (wAr h pl t Q A) := by
  simp only [q111_191 (x := i), q111_192, q111_193, q111_196, q111_199, q111_202, q111_205, q111_206, q111_208, q111_210, q111_211, q111_214, q111_215, q111_218, q111_219, q111_220, q111_221, q111_223, q111_226, q111_227, q111_228, q111_229, q111_232, q111_235, q111_238, i10, eq_self, ft0, ft1, b01_ft, k1r, k1i, xG_some, xH_some, xC_v, xC_n, if_true, if_false, not_true_eq_false, not_false_eq_true, ix_st, ix_st2, List.getElem?_cons_succ, List.getElem?_cons_zero, List.set_cons_succ, List.set_cons_zero, Value.category, List.map_cons, List.map_nil, List.sum_cons, List.sum_nil, Nat.reduceAdd, Nat.reduceLeDiff, Nat.reduceEqDiff, Nat.zero_le, reduceCtorEq, reduceIte, xit, b01_z, b01_o, b01_t, b01_f, Bool.not_eq_true, Bool.true_eq_false, Bool.false_eq_true, not_true, not_false_eq_true, eq_self, hi, rW2 g, rAa0 g.1, rAp15 g.1, isW g, m98_0 g hp, m98_1 g hp, m98_2 g hp, m98_3 g hp, Int32.reduceAdd, Int32.reduceLE, Int32.reduceLT]
  rfl
theorem inL_of {i x : Int32} (h0 : 0 ≤ i) (hi : ¬ x ≤ i) : inL i x = false := by
  unfold inL
  rw [if_neg (Int32.not_lt.mpr h0), if_pos (Int32.not_le.mp hi)]
theorem i32_up {i x : Int32} (h0 : 0 ≤ i) (hi : ¬ x ≤ i) : 0 ≤ i + 1 := by
  have := i32_suc hi
  rw [Int32.le_iff_toInt_le] at *
  rw [show (0 : Int32).toInt = 0 from rfl] at *
  omega
theorem lpP' {S T : Type} {X : Option Value → Int32 → S → T} {to : Int32} {f : Int32 → S → S} (step : ∀ j i s, 0 ≤ i → ¬ to ≤ i → ∃ j', X j i s = X j' (i + 1) (f i s)) (j : Option Value) (i : Int32) (s : S) (h0 : 0 ≤ i) : ∃ j' i', to ≤ i' ∧ X j i s = X j' i' (itI f i (rng i to) s) := by
  suffices key : ∀ m j i s, 0 ≤ i → rng i to = m → ∃ j' i', to ≤ i' ∧ X j i s = X j' i' (itI f i m s) from key _ j i s h0 rfl
  intro m
  induction m with
  | zero =>
    intro j i s _ e
    have h : to ≤ i := by
      rw [Int32.le_iff_toInt_le]
      unfold rng at e
      omega
    exact ⟨j, i, h, rfl⟩
  | succ m ih =>
    intro j i s h0 e
    have h : ¬ to ≤ i := fun h => by rw [rng_end h] at e; cases e
    obtain ⟨j1, e1⟩ := step j i s h0 h
    obtain ⟨j', i', h1, h2⟩ := ih j1 (i + 1) (f i s) (i32_up h0 h) (by rw [rng_suc h] at e; omega)
    exact ⟨j', i', h1, e1.trans h2⟩
def dgP (Q : Mem) (i : Int32) (s : Int64 × Mem) : Int64 × Mem := (dgs s.1 [pnL Q s.2 i 0, pnL Q s.2 i 1, pnL Q s.2 i 2, pnL Q s.2 i 3, pnL Q s.2 i 4, pnL Q s.2 i 5, pnL Q s.2 i 6], s.2)
def dgB (Q : Mem) (i : Int32) (s : Int64 × Mem) : Int64 × Mem := (dgs s.1 [byL Q s.2 i 0, byL Q s.2 i 1, byL Q s.2 i 2, byL Q s.2 i 3, byL Q s.2 i 4], s.2)
def dgK (Q : Mem) (i : Int32) (s : Int64 × Mem) : Int64 × Mem := (dgs s.1 [crL Q s.2 i 0, crL Q s.2 i 1, crL Q s.2 i 2, crL Q s.2 i 3, crL Q s.2 i 4, crL Q (goL Q s.2 i).2 i 5], (goL Q s.2 i).2)
def dgF (Q : Mem) (i : Int32) (s : Int64 × Mem) : Int64 × Mem := (dgs s.1 [fkL Q s.2 i 0, fkL Q s.2 i 1, fkL Q s.2 i 2, fkL Q s.2 i 3], s.2)
def dgL (Q A : Mem) (len : Int32) : Int64 × Mem := itI (dgF Q) 0 (rng 0 (Q 0 4)) (itI (dgK Q) 0 (rng 0 (Q 0 3)) (itI (dgB Q) 0 (rng 0 (Q 0 0)) (itI (dgP Q) 0 (rng 0 (Q 0 1)) (dgs 839 [ctL Q A len 0, ctL Q A len 1, ctL Q A len 2, ctL Q A len 3, ctL Q A len 4, ctL Q A len 5, ctL Q A len 6, ctL Q A len 7, ctL Q A len 8, ctL Q A len 9, ctL Q A len 10, ctL Q A len 11, ctL Q A len 12, ctL Q A len 13], A))))
theorem m111 (g : gW h b tp rd pl t t2 tb lea len) : xe (ixP fv) (d + 6) 111 0 [some (.ref b), none, none, none, none] [] (wAr h pl t Q A) = some (.inl (some (.long (dgL Q A len).1)), wAr h pl t Q (dgL Q A len).2) := by
  have k1 : ∀ (s : Int64 × Mem) (l : Option Value), ∃ l', xe (ixP fv) (d + 6) 111 33 [some (.ref b), some (.long s.1), none, some (.int 0), l] [] (wAr h pl t Q s.2) = xe (ixP fv) (d + 6) 111 86 [some (.ref b), some (.long (itI (dgP Q) 0 (rng 0 (Q 0 1)) s).1), none, some (.int 0), l'] [] (wAr h pl t Q (itI (dgP Q) 0 (rng 0 (Q 0 1)) s).2) := by
    intro s l
    obtain ⟨j', i', hi, e⟩ := lpP' (X := fun j i (s : Int64 × Mem) => xe (ixP fv) (d + 6) 111 33 [some (.ref b), some (.long s.1), none, some (.int i), j] [] (wAr h pl t Q s.2)) (to := Q 0 1) (f := dgP Q) (fun j i s h0 hc => ⟨_, m111_p g hc (inL_of h0 hc)⟩) l 0 s (by decide)
    refine ⟨j', e.trans ?_⟩
    simp only [q111_33, q111_34, q111_35, q111_38, q111_41, q111_44, q111_84, q111_85, i10, eq_self, ft0, ft1, b01_ft, k1r, k1i, xG_some, xH_some, xC_v, xC_n, if_true, if_false, not_true_eq_false, not_false_eq_true, ix_st, ix_st2, List.getElem?_cons_succ, List.getElem?_cons_zero, List.set_cons_succ, List.set_cons_zero, Value.category, List.map_cons, List.map_nil, List.sum_cons, List.sum_nil, Nat.reduceAdd, Nat.reduceLeDiff, Nat.reduceEqDiff, Nat.zero_le, reduceCtorEq, reduceIte, xit, b01_z, b01_o, b01_t, b01_f, Bool.not_eq_true, Bool.true_eq_false, Bool.false_eq_true, not_true, not_false_eq_true, eq_self, hi, rW2 g, rAa0 g.1, rAp4 g.1]
  have k2 : ∀ (s : Int64 × Mem) (l : Option Value), ∃ l', xe (ixP fv) (d + 6) 111 86 [some (.ref b), some (.long s.1), none, some (.int 0), l] [] (wAr h pl t Q s.2) = xe (ixP fv) (d + 6) 111 138 [some (.ref b), some (.long (itI (dgB Q) 0 (rng 0 (Q 0 0)) s).1), none, some (.int 0), l'] [] (wAr h pl t Q (itI (dgB Q) 0 (rng 0 (Q 0 0)) s).2) := by
    intro s l
    obtain ⟨j', i', hi, e⟩ := lpP' (X := fun j i (s : Int64 × Mem) => xe (ixP fv) (d + 6) 111 86 [some (.ref b), some (.long s.1), none, some (.int i), j] [] (wAr h pl t Q s.2)) (to := Q 0 0) (f := dgB Q) (fun j i s h0 hc => ⟨_, m111_b g hc (inL_of h0 hc)⟩) l 0 s (by decide)
    refine ⟨j', e.trans ?_⟩
    simp only [q111_86, q111_87, q111_88, q111_91, q111_94, q111_97, q111_136, q111_137, i10, eq_self, ft0, ft1, b01_ft, k1r, k1i, xG_some, xH_some, xC_v, xC_n, if_true, if_false, not_true_eq_false, not_false_eq_true, ix_st, ix_st2, List.getElem?_cons_succ, List.getElem?_cons_zero, List.set_cons_succ, List.set_cons_zero, Value.category, List.map_cons, List.map_nil, List.sum_cons, List.sum_nil, Nat.reduceAdd, Nat.reduceLeDiff, Nat.reduceEqDiff, Nat.zero_le, reduceCtorEq, reduceIte, xit, b01_z, b01_o, b01_t, b01_f, Bool.not_eq_true, Bool.true_eq_false, Bool.false_eq_true, not_true, not_false_eq_true, eq_self, hi, rW2 g, rAa0 g.1, rAp0 g.1]
  have k3 : ∀ (s : Int64 × Mem) (l : Option Value), ∃ l', xe (ixP fv) (d + 6) 111 138 [some (.ref b), some (.long s.1), none, some (.int 0), l] [] (wAr h pl t Q s.2) = xe (ixP fv) (d + 6) 111 191 [some (.ref b), some (.long (itI (dgK Q) 0 (rng 0 (Q 0 3)) s).1), none, some (.int 0), l'] [] (wAr h pl t Q (itI (dgK Q) 0 (rng 0 (Q 0 3)) s).2) := by
    intro s l
    obtain ⟨j', i', hi, e⟩ := lpP' (X := fun j i (s : Int64 × Mem) => xe (ixP fv) (d + 6) 111 138 [some (.ref b), some (.long s.1), none, some (.int i), j] [] (wAr h pl t Q s.2)) (to := Q 0 3) (f := dgK Q) (fun j i s h0 hc => ⟨_, m111_k g hc (inL_of h0 hc)⟩) l 0 s (by decide)
    refine ⟨j', e.trans ?_⟩
    simp only [q111_138, q111_139, q111_140, q111_143, q111_146, q111_149, q111_189, q111_190, i10, eq_self, ft0, ft1, b01_ft, k1r, k1i, xG_some, xH_some, xC_v, xC_n, if_true, if_false, not_true_eq_false, not_false_eq_true, ix_st, ix_st2, List.getElem?_cons_succ, List.getElem?_cons_zero, List.set_cons_succ, List.set_cons_zero, Value.category, List.map_cons, List.map_nil, List.sum_cons, List.sum_nil, Nat.reduceAdd, Nat.reduceLeDiff, Nat.reduceEqDiff, Nat.zero_le, reduceCtorEq, reduceIte, xit, b01_z, b01_o, b01_t, b01_f, Bool.not_eq_true, Bool.true_eq_false, Bool.false_eq_true, not_true, not_false_eq_true, eq_self, hi, rW2 g, rAa0 g.1, rAp11 g.1]
  have k4 : ∀ (s : Int64 × Mem) (l : Option Value), xe (ixP fv) (d + 6) 111 191 [some (.ref b), some (.long s.1), none, some (.int 0), l] [] (wAr h pl t Q s.2) = some (.inl (some (.long (itI (dgF Q) 0 (rng 0 (Q 0 4)) s).1)), wAr h pl t Q (itI (dgF Q) 0 (rng 0 (Q 0 4)) s).2) := by
    intro s l
    obtain ⟨j', i', hi, e⟩ := lpP' (X := fun j i (s : Int64 × Mem) => xe (ixP fv) (d + 6) 111 191 [some (.ref b), some (.long s.1), none, some (.int i), j] [] (wAr h pl t Q s.2)) (to := Q 0 4) (f := dgF Q) (fun j i s h0 hc => ⟨_, m111_f g hc (inL_of h0 hc)⟩) l 0 s (by decide)
    refine e.trans ?_
    simp only [q111_191, q111_192, q111_193, q111_196, q111_199, q111_202, q111_241, q111_242 (st := []), i10, eq_self, ft0, ft1, b01_ft, k1r, k1i, xG_some, xH_some, xC_v, xC_n, if_true, if_false, not_true_eq_false, not_false_eq_true, ix_st, ix_st2, List.getElem?_cons_succ, List.getElem?_cons_zero, List.set_cons_succ, List.set_cons_zero, Value.category, List.map_cons, List.map_nil, List.sum_cons, List.sum_nil, Nat.reduceAdd, Nat.reduceLeDiff, Nat.reduceEqDiff, Nat.zero_le, reduceCtorEq, reduceIte, xit, b01_z, b01_o, b01_t, b01_f, Bool.not_eq_true, Bool.true_eq_false, Bool.false_eq_true, not_true, not_false_eq_true, eq_self, hi, rW2 g, rAa0 g.1, rAp15 g.1]
  obtain ⟨l1, e1⟩ := k1 (dgs 839 [ctL Q A len 0, ctL Q A len 1, ctL Q A len 2, ctL Q A len 3, ctL Q A len 4, ctL Q A len 5, ctL Q A len 6, ctL Q A len 7, ctL Q A len 8, ctL Q A len 9, ctL Q A len 10, ctL Q A len 11, ctL Q A len 12, ctL Q A len 13], A) none
  obtain ⟨l2, e2⟩ := k2 (itI (dgP Q) 0 (rng 0 (Q 0 1)) (dgs 839 [ctL Q A len 0, ctL Q A len 1, ctL Q A len 2, ctL Q A len 3, ctL Q A len 4, ctL Q A len 5, ctL Q A len 6, ctL Q A len 7, ctL Q A len 8, ctL Q A len 9, ctL Q A len 10, ctL Q A len 11, ctL Q A len 12, ctL Q A len 13], A)) l1
  obtain ⟨l3, e3⟩ := k3 (itI (dgB Q) 0 (rng 0 (Q 0 0)) (itI (dgP Q) 0 (rng 0 (Q 0 1)) (dgs 839 [ctL Q A len 0, ctL Q A len 1, ctL Q A len 2, ctL Q A len 3, ctL Q A len 4, ctL Q A len 5, ctL Q A len 6, ctL Q A len 7, ctL Q A len 8, ctL Q A len 9, ctL Q A len 10, ctL Q A len 11, ctL Q A len 12, ctL Q A len 13], A))) l2
  have e4 := k4 (itI (dgK Q) 0 (rng 0 (Q 0 3)) (itI (dgB Q) 0 (rng 0 (Q 0 0)) (itI (dgP Q) 0 (rng 0 (Q 0 1)) (dgs 839 [ctL Q A len 0, ctL Q A len 1, ctL Q A len 2, ctL Q A len 3, ctL Q A len 4, ctL Q A len 5, ctL Q A len 6, ctL Q A len 7, ctL Q A len 8, ctL Q A len 9, ctL Q A len 10, ctL Q A len 11, ctL Q A len 12, ctL Q A len 13], A)))) l3
  exact (m111_c g).trans (e1.trans (e2.trans (e3.trans e4)))
end DIG
