/-! THE LAW: a round; the hour (written by gen9985.py). -/
section LAWR13
variable {fv : Value} {d : Nat} {H : ix_H} {b tp rd pl t t2 tb o : Nat} {lea len : Int32} {Q A A' Z Z' : Mem} {s : Nat} {K : Nat → Option (Nat × Nat)} {X : Nat → Nat} {D : Nat → Nat → Nat} {n fb : Nat → Nat} {M M' : Mm} {p c f q m k v j : Nat} {w i x : Int32} {F : Nat → Nat → Int32} {l0 l1 l2 l3 l4 l5 l6 l7 l8 l9 l10 l11 l12 l13 l14 l15 l16 l17 l18 l19 l20 l21 l22 l23 l24 l25 l26 l27 l28 l29 l30 l31 : Option Value} {f : Nat → Int32} {y : Int32}
theorem r26 (g : HI H b tp rd pl t t2 tb lea len Q A Z s K X D n M fb) (hr : H[o]? = some (.inl (0, 4, .inl f))) (ho : t2 + 10 ≤ o) (hf : ∀ i, i < 4 → f i = f20 M n i) : ∃ H' A', xe (ixP fv) (d + 10) 0 959 [l0, l1, some (.ref (s)), some (.ref (b)), l4, l5, some (.int (nI (n 2))), l7, l8, l9, l10, l11, l12, l13, l14, l15, l16, l17, l18, l19, some (.ref (o)), l21, l22, l23, some (.int (y)), l25, l26, l27, l28, l29, l30, l31] [] H = xe (ixP fv) (d + 10) 0 1047 [l0, l1, some (.ref (s)), some (.ref (b)), l4, l5, some (.int (nI (n 2))), l7, l8, l9, l10, l11, l12, l13, l14, l15, l16, l17, l18, l19, some (.ref (o)), l21, l22, l23, some (.int (y)), some (.int (A 0 2)), some (.int ((sPa M n).1)), l27, l28, l29, l30, l31] [] H' ∧ HI H' b tp rd pl t t2 tb lea len Q A' Z s K X D n (sPs M n) fb ∧ FR H H' t2 := by
  obtain ⟨a1, a2, a3, a4, a5, a6⟩ := HW_lt g.1
  have hn := HI_n g
  have hI := gn_eq (m := 1) g.2.1 (by decide)
  rw [hrs_1] at hI
  have e1 := fun d => hw94_11 (fv := fv) (d := d) g
  have e2 := fun d => m104 (fv := fv) (d := d) (Q := Q) (A := A) (p := 1) g.1.1.1 (HI_Q1 g) (by decide)
  rw [HW_A g.1] at e2
  have ev : gnL Q A 1 0 2 - A 0 2 = (sPa M n).1 := by
    have := hI.2.1
    rw [show gnL Q A 1 0 2 = A 0 2 + (sPa M n).1 from this, Int32.add_comm, Int32.add_sub_cancel]
  have g1 : HW (wAr H pl t Q (gnL Q A 1)) b tp rd pl t t2 tb lea len Q (gnL Q A 1) Z s K X D n M := HW_putA g.1
  have gs := g1.2.2.2.2.1
  have e3 := fun d => (m131 (fv := fv) (d := d) gs (HI_vW g)).1
  have is1 := isS (fv := fv) (M := M) gs
  rw [HW_S g1] at e3 is1
  have g2 : HI (wS (wAr H pl t Q (gnL Q A 1)) K X (sPs M n)) b tp rd pl t t2 tb lea len Q (gnL Q A 1) Z s K X D n (sPs M n) fb := ⟨HW_putS g1, hI.1, g.2.2.1, hI.2.2.2.2.trans g.2.2.2.1, WP_s hI.2.2.1 g.2.2.2.2.1, g.2.2.2.2.2.1, g.2.2.2.2.2.2.1, g.2.2.2.2.2.2.2.1, by rw [show gnL Q A 1 0 2 = A 0 2 + (sPa M n).1 from hI.2.1, sPs_02, g.2.2.2.2.2.2.2.2.1], g.2.2.2.2.2.2.2.2.2⟩
  have fr : FR H (wS (wAr H pl t Q (gnL Q A 1)) K X (sPs M n)) t2 := FR_t (FR_A g.1) (FR_S g1 g.2.2.2.2.2.2.1)
  refine ⟨_, _, ?_, g2, fr⟩
  have w11 := fun d => hw94_11 (fv := fv) (d := d) g2
  have w8 := fun d => hw94_8 (fv := fv) (d := d) g2
  have w9 := fun d => hw94_9 (fv := fv) (d := d) g2
  have w12 := fun d => hw94_12 (fv := fv) (d := d) g2
  have is2 := HI_is (fv := fv) g2
  have hr2 := (fr.2.2 o (Or.inr ho)).trans hr
  have eA : gnL Q A 1 0 2 = A 0 2 + (sPa M n).1 := hI.2.1
  rw [eA] at w11
  have r0 : rA (wS (wAr H pl t Q (gnL Q A 1)) K X (sPs M n)) o 0 = some (.int (sPa M n).1) := (rA_of (i := 0) hr2 (by decide)).trans (congrArg (fun z => some (Value.int z)) (hf 0 (by decide)))
  have r1 : rA (wS (wAr H pl t Q (gnL Q A 1)) K X (sPs M n)) o 1 = some (.int (sLf (sPs M n) n (-1))) := (rA_of (i := 1) hr2 (by decide)).trans (congrArg (fun z => some (Value.int z)) (hf 1 (by decide)))
  have r2 : rA (wS (wAr H pl t Q (gnL Q A 1)) K X (sPs M n)) o 2 = some (.int (sDi (sPs M n) n)) := (rA_of (i := 2) hr2 (by decide)).trans (congrArg (fun z => some (Value.int z)) (hf 2 (by decide)))
  have r3 : rA (wS (wAr H pl t Q (gnL Q A 1)) K X (sPs M n)) o 3 = some (.int (sDk (sPs M n) n)) := (rA_of (i := 3) hr2 (by decide)).trans (congrArg (fun z => some (Value.int z)) (hf 3 (by decide)))
  simp only [q0_959, q0_960, q0_962, q0_965, q0_967, q0_968, q0_969, q0_972, q0_974, q0_975, q0_978, q0_980, q0_983, q0_985, q0_987, q0_988, q0_989, q0_992, q0_993, q0_995, q0_998, q0_1000, q0_1002, q0_1003, q0_1006, q0_1007, q0_1009, q0_1012, q0_1014, q0_1015, q0_1016, q0_1019, q0_1020, q0_1022, q0_1025, q0_1027, q0_1028, q0_1029, q0_1032, q0_1033, q0_1035, q0_1038, q0_1040, q0_1041, q0_1042, i10, eq_self, ft0, ft1, b01_ft, k1r, k1i, xG_some, xH_some, xC_v, xC_n, if_true, if_false, not_true_eq_false, not_false_eq_true, ix_st, ix_st2, List.getElem?_cons_succ, List.getElem?_cons_zero, List.set_cons_succ, List.set_cons_zero, Value.category, List.map_cons, List.map_nil, List.sum_cons, List.sum_nil, Nat.reduceAdd, Nat.reduceLeDiff, Nat.reduceEqDiff, Nat.zero_le, reduceCtorEq, ↓reduceIte, eq_self, xit, e1, e2, ev, e3, is1, is2, HI_is g, r0, r1, r2, r3, w11, w8, w9, w12]
end LAWR13
