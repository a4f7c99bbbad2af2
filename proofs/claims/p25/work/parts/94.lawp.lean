/-! THE LAW: passed (written by gen94.py). -/
section LAWP
variable {fv : Value} {d : Nat} {H : ix_H} {b tp rd pl t t2 tb : Nat} {lea len : Int32} {Q A A' Z Z' : Mem} {s : Nat} {K : Nat → Option (Nat × Nat)} {X : Nat → Nat} {D : Nat → Nat → Nat} {n fb : Nat → Nat} {M M' : Mm} {p c f q m k v : Nat} {w i x : Int32}
theorem sPs_02 : sPs M n 0 0 2 = M 0 0 2 + (sPa M n).1 := by
  have h : (sPa M n).2 0 = M 0 := P4_k.2.2.trans (KP_3.2.2.trans (KP_2.2.2.trans KP_1.2.2.2))
  show sP5 (sPa M n) 0 0 2 = _
  unfold sP5
  rw [um_c (by decide), um_e, h]
theorem hrs_02 : (hrs n m M).2 0 0 2 = M 0 0 2 + (hrs n m M).1 := by
  unfold hrs
  refine itr_I (I := fun a : Int32 × Mm => a.2 0 0 2 = M 0 0 2 + a.1) (m := m) (fun k a _ h => ?_) m 0 (0, M) (by omega) (Int32.add_zero _).symm
  show sPs a.2 n 0 0 2 = _
  rw [sPs_02, h, Int32.add_assoc]
theorem HI_vW (g : HI H b tp rd pl t t2 tb lea len Q A Z s K X D n M fb) : vW M n := ⟨g.2.1.1.2.2.2.2.2.2.1, fun c hc => by
  obtain ⟨s, w, h1, h2, -⟩ := g.2.1.2.1.2.1 c hc
  rw [h1]
  exact vx_nI (by omega) (by decide)⟩
theorem m173 (g : HI H b tp rd pl t t2 tb lea len Q A Z s K X D n M fb) (h1 : 1 ≤ m) (hm : m ≤ 120) : ∃ H' A', xe (ixP fv) (d + 8) 173 0 [some (.ref b), some (.ref s), some (.int (nI m)), none, none] [] H = some (.inl (some (.int 1)), H') ∧ HI H' b tp rd pl t t2 tb lea len Q A' Z s K X D n (hrs n m M).2 fb ∧ FR H H' t2 := by
  have gs := g.1.2.2.2.2.1
  obtain ⟨⟨j', e⟩, hv⟩ := lpI (J := Unit) (Y := fun _ k (a : Int32 × Mm) => xe (ixP fv) (d + 8) 173 5 [some (.ref b), some (.ref s), some (.int (nI m)), some (.int a.1), some (.int (nI k))] [] (wS H K X a.2)) (I := fun a => vW a.2 n) (m := m) (f := fun _ a => (a.1 + (sPa a.2 n).1, sPs a.2 n)) (fun j k a hk hv => ⟨⟨(), by
    have c1 : ¬ nI m ≤ nI k := nI_ge hk (by omega)
    have ek : nI k + 1 = nI (k + 1) := nI_add k 1
    have e1 := fun d => (m131 (fv := fv) (d := d + 2) gs hv).1
    simp only [q173_5 (x := nI k), q173_7, q173_8, q173_11, q173_12, q173_13, q173_16, q173_17, q173_18, q173_21, i10, eq_self, ft0, ft1, b01_ft, k1r, k1i, xG_some, xH_some, xC_v, xC_n, if_true, if_false, not_true_eq_false, not_false_eq_true, ix_st, ix_st2, List.getElem?_cons_succ, List.getElem?_cons_zero, List.set_cons_succ, List.set_cons_zero, Value.category, List.map_cons, List.map_nil, List.sum_cons, List.sum_nil, Nat.reduceAdd, Nat.reduceLeDiff, Nat.reduceEqDiff, Nat.zero_le, reduceCtorEq, ↓reduceIte, eq_self, xit, c1, e1, isS gs, ek]⟩, (m131 (fv := fv) (d := d) gs hv).2⟩) () (0, M) (HI_vW g)
  have hI := gn_eq (m := m) g.2.1 (by omega)
  have hr : itr (fun _ (a : Int32 × Mm) => (a.1 + (sPa a.2 n).1, sPs a.2 n)) 0 m (0, M) = hrs n m M := rfl
  have h02 := hrs_02 (n := n) (m := m) (M := M)
  rw [hr] at e
  generalize hrs n m M = a at *
  have g1 : HW (wS H K X a.2) b tp rd pl t t2 tb lea len Q A Z s K X D n a.2 := HW_putS g.1
  have e2 := fun d => m104 (fv := fv) (d := d) (A := A) (p := nI m) g1.1.1 (HI_Q1 g) (ntL_n (m := 120) h1 hm (by decide))
  rw [HW_A g1] at e2
  have is2 : ix_is (ixP fv) (wS H K X a.2) b "SkylightWash" = true := is_of g1.1.1.2.2.2.2.2.1 (by decide +kernel)
  have ev : gnL Q A (nI m) 0 2 - A 0 2 = a.1 := by rw [hI.2.1, Int32.add_comm, Int32.add_sub_cancel]
  have c2 : nI m ≤ nI m := Int32.le_refl _
  refine ⟨wAr (wS H K X a.2) pl t Q (gnL Q A (nI m)), gnL Q A (nI m), ?_, ⟨HW_putA g1, hI.1, g.2.2.1, hI.2.2.2.2.trans g.2.2.2.1, WP_s hI.2.2.1 g.2.2.2.2.1, g.2.2.2.2.2.1, g.2.2.2.2.2.2.1, g.2.2.2.2.2.2.2.1, by rw [hI.2.1, h02, g.2.2.2.2.2.2.2.2.1], g.2.2.2.2.2.2.2.2.2⟩, FR_t (FR_S g.1 g.2.2.2.2.2.2.1) (FR_A g1)⟩
  have e0 : xe (ixP fv) (d + 8) 173 0 [some (.ref b), some (.ref s), some (.int (nI m)), none, none] [] H = xe (ixP fv) (d + 8) 173 5 [some (.ref b), some (.ref s), some (.int (nI m)), some (.int 0), some (.int (nI 0))] [] (wS H K X M) := by
    rw [HW_S g.1]
    simp only [q173_0, q173_1, q173_2, q173_3, i10, eq_self, ft0, ft1, b01_ft, k1r, k1i, xG_some, xH_some, xC_v, xC_n, if_true, if_false, not_true_eq_false, not_false_eq_true, ix_st, ix_st2, List.getElem?_cons_succ, List.getElem?_cons_zero, List.set_cons_succ, List.set_cons_zero, Value.category, List.map_cons, List.map_nil, List.sum_cons, List.sum_nil, Nat.reduceAdd, Nat.reduceLeDiff, Nat.reduceEqDiff, Nat.zero_le, reduceCtorEq, ↓reduceIte, eq_self, xit]
    rfl
  refine e0.trans (e.trans ?_)
  simp only [q173_0, q173_1, q173_2, q173_3, q173_5, q173_7, q173_8, q173_11, q173_12, q173_13, q173_16, q173_17, q173_18, q173_21, q173_24, q173_25, q173_26, q173_29, q173_30, q173_33, q173_34, q173_37, q173_38 (st := []), i10, eq_self, ft0, ft1, b01_ft, k1r, k1i, xG_some, xH_some, xC_v, xC_n, if_true, if_false, not_true_eq_false, not_false_eq_true, ix_st, ix_st2, List.getElem?_cons_succ, List.getElem?_cons_zero, List.set_cons_succ, List.set_cons_zero, Value.category, List.map_cons, List.map_nil, List.sum_cons, List.sum_nil, Nat.reduceAdd, Nat.reduceLeDiff, Nat.reduceEqDiff, Nat.zero_le, reduceCtorEq, ↓reduceIte, eq_self, xit, c2, e2, is2, ev]
end LAWP
