/-! THE LAW: a round; what trials leave (written by gen9984.py). -/
section LAWR12
variable {fv : Value} {d : Nat} {H : ix_H} {b tp rd pl t t2 tb o : Nat} {lea len : Int32} {Q A A' Z Z' : Mem} {s : Nat} {K : Nat → Option (Nat × Nat)} {X : Nat → Nat} {D : Nat → Nat → Nat} {n fb : Nat → Nat} {M M' : Mm} {p c f q m k v j : Nat} {w i x : Int32} {F : Nat → Nat → Int32} {l0 l1 l2 l3 l4 l5 l6 l7 l8 l9 l10 l11 l12 l13 l14 l15 l16 l17 l18 l19 l20 l21 l22 l23 l24 l25 l26 l27 l28 l29 l30 l31 : Option Value} {w18 : Int64} {a : Nat} {A0 : Mem}
theorem lg_self {x : Int64} : lg_cmp x x = 0 := by
  unfold lg_cmp
  simp
theorem r25 (g : HI H b tp rd pl t t2 tb lea len Q A Z s K X D n M fb) (G : isG H o (n 2) 7 F) (ho : t2 + 10 ≤ o) (hF : ∀ p, p < n 2 → ∀ i, i < 7 → F p i = pv Q A' M n p i) (hp : p < n 2) (ha : a < n 2) (hc : c < n 4) (h18 : w18 = (dgL Q A len).1) : ∃ H' A' Z', xe (ixP fv) (d + 10) 0 867 [l0, l1, l2, some (.ref (b)), l4, l5, some (.int (nI (n 2))), some (.int (nI (n 4))), l8, some (.ref (o)), l10, l11, l12, l13, l14, l15, l16, l17, some (.long w18), l19, l20, some (.int (nI p)), some (.int (utV n p M)), some (.int (nI a)), some (.int (nI c)), l25, l26, l27, l28, l29, l30, l31] [] H = xe (ixP fv) (d + 10) 0 959 [l0, l1, l2, some (.ref (b)), l4, l5, some (.int (nI (n 2))), some (.int (nI (n 4))), l8, some (.ref (o)), l10, l11, l12, l13, l14, l15, l16, l17, some (.long w18), l19, l20, some (.int (nI p)), some (.int (utV n p M)), some (.int (nI a)), some (.int (nI c)), l25, l26, l27, l28, l29, l30, l31] [] H' ∧ HI H' b tp rd pl t t2 tb lea len Q A' Z' s K X D n M fb ∧ eqA A A' ∧ FR H H' t2 := by
  obtain ⟨a1, a2, a3, a4, a5, a6⟩ := HW_lt g.1
  have hn := HI_n g
  obtain ⟨A1, e1, q1⟩ := hw111 (fv := fv) (d := d + 3) g
  rw [← h18] at e1
  have g1 := HI_q g q1
  have fr1 : FR H (wAr H pl t Q A1) t2 := FR_A g.1
  have G1 : isG (wAr H pl t Q A1) o (n 2) 7 F := isG_of G (fun q h1 _ => fr1.2.2 q (Or.inr (by omega)))
  have e2 := rQ_g (fv := fv) G1 (by omega) hp (by omega)
  have e3 : rA (wAr H pl t Q A1) (o + 1 + p) 3 = some (.int (M 2 p 3)) := (rA_g (j := 3) G1 hp (by decide) (by decide)).trans (by rw [hF p hp 3 (by decide)]; rfl)
  have e4 := fun d => hw94_1 (fv := fv) (d := d) g1
  obtain ⟨H2, Z2, e5, g2, q2⟩ := hw107 (fv := fv) (d := d + 2) g1
  have fr2 : FR (wAr H pl t Q A1) H2 t2 := by rw [q2]; exact FR_Z g1.1
  obtain ⟨u1, u2⟩ := utV_b (n := n) (p := p) (M := M)
  have u0 := utV_0 (n := n) (p := p) (M := M)
  have c1 : ¬ nI a < 0 := nI_pos (by omega)
  have c2 : ¬ nI (n 2) ≤ nI a := nI_ge ha (by omega)
  have c3 : ¬ nI c < 0 := nI_pos (by omega)
  have c4 : ¬ nI (n 4) ≤ nI c := nI_ge hc (by omega)
  have ls := lg_self (x := w18)
  refine ⟨H2, A1, Z2, ?_, g2, q1, FR_t fr1 fr2⟩
  generalize utV n p M = u at *
  by_cases c5 : M 2 p 3 = 1
  · have c6 : u = 0 := u0.mpr c5
    rw [c6] at u1 u2
    rw [c6]
    simp only [q0_867, q0_868, q0_871, q0_873, q0_874, q0_877, q0_879, q0_882, q0_883, q0_886, q0_887, q0_889, q0_891, q0_892, q0_893, q0_894, q0_895, q0_898, q0_899, q0_902, q0_903, q0_906, q0_908, q0_909, q0_912, q0_914, q0_917, q0_920, q0_922, q0_925, q0_927, q0_929, q0_932, q0_934, q0_937, q0_939, q0_941, q0_944, q0_945, q0_946, q0_947, q0_948, q0_951, q0_954, q0_957, i10, eq_self, ft0, ft1, b01_ft, k1r, k1i, xG_some, xH_some, xC_v, xC_n, if_true, if_false, not_true_eq_false, not_false_eq_true, ix_st, ix_st2, List.getElem?_cons_succ, List.getElem?_cons_zero, List.set_cons_succ, List.set_cons_zero, Value.category, List.map_cons, List.map_nil, List.sum_cons, List.sum_nil, Nat.reduceAdd, Nat.reduceLeDiff, Nat.reduceEqDiff, Nat.zero_le, reduceCtorEq, ↓reduceIte, eq_self, xit, e1, e2, e3, e4, e5, HI_is g, HI_is g1, u1, u2, c1, c2, c3, c4, c5, ls]
  · have c6 : ¬ u = 0 := fun h => c5 (u0.mp h)
    simp only [q0_867, q0_868, q0_871, q0_873, q0_874, q0_877, q0_879, q0_882, q0_883, q0_886, q0_887, q0_889, q0_891, q0_892, q0_893, q0_894, q0_895, q0_898, q0_899, q0_902, q0_903, q0_906, q0_908, q0_909, q0_912, q0_914, q0_917, q0_920, q0_922, q0_925, q0_927, q0_929, q0_932, q0_934, q0_937, q0_939, q0_941, q0_944, q0_945, q0_946, q0_947, q0_948, q0_951, q0_954, q0_957, i10, eq_self, ft0, ft1, b01_ft, k1r, k1i, xG_some, xH_some, xC_v, xC_n, if_true, if_false, not_true_eq_false, not_false_eq_true, ix_st, ix_st2, List.getElem?_cons_succ, List.getElem?_cons_zero, List.set_cons_succ, List.set_cons_zero, Value.category, List.map_cons, List.map_nil, List.sum_cons, List.sum_nil, Nat.reduceAdd, Nat.reduceLeDiff, Nat.reduceEqDiff, Nat.zero_le, reduceCtorEq, ↓reduceIte, eq_self, xit, e1, e2, e3, e4, e5, HI_is g, HI_is g1, u1, u2, c1, c2, c3, c4, c5, c6, ls]
end LAWR12
