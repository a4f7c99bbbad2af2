/-! THE LAW: a round; its beginning (written by gen999.py). -/
theorem bg {m : Nat} (h : m ≤ 50000000) : ix_big (nI m) = true := by
  unfold ix_big
  rw [nI_toInt (by omega), decide_eq_true (by omega), decide_eq_true (by omega)]
  rfl
theorem FP2_m {H H' : ix_H} {t2 c z c' z' : Nat} (h : FP2 H H' t2 c z) (hc : c ≤ c') (hz : z ≤ z') : FP2 H H' t2 c' z' := ⟨h.1, by have := h.2.1; omega, by have := h.2.2.1; omega, h.2.2.2⟩
theorem FP2_r {H : ix_H} {t2 : Nat} : FP2 H H t2 0 0 := FP2_of FR_r
/-- a grid made, and written -/
theorem FP2_gr {H H' : ix_H} {t2 m k : Nat} (h1 : H'.length = (H ++ ix_gr H.length m k).length) (h2 : ix_sz H' = ix_sz (H ++ ix_gr H.length m k)) (h3 : ∀ q, q < H.length → (q < 98 ∨ t2 + 10 ≤ q) → H'[q]? = (H ++ ix_gr H.length m k)[q]?) : FP2 H H' t2 (m + 1) (m + m * k) := by
  rw [gr_len] at h1
  rw [gr_sz] at h2
  refine ⟨by omega, by omega, by omega, fun q hq h => (h3 q hq h).trans (List.getElem?_append_left hq)⟩
section LAWR18
variable {fv : Value} {d : Nat} {H : ix_H} {b tp rd pl t t2 tb o : Nat} {lea len : Int32} {Q A A' Z Z' : Mem} {s : Nat} {K : Nat → Option (Nat × Nat)} {X : Nat → Nat} {D : Nat → Nat → Nat} {n fb : Nat → Nat} {M M' : Mm} {p c f q m k v j : Nat} {w i x : Int32} {F : Nat → Nat → Int32} {l0 l1 l2 l3 l4 l5 l6 l7 l8 l9 l10 l11 l12 l13 l14 l15 l16 l17 l18 l19 l20 l21 l22 l23 l24 l25 l26 l27 l28 l29 l30 l31 : Option Value} {N : Nat} {f0 : Nat → Int32}
theorem r38 (g : HI H b tp rd pl t t2 tb lea len Q A Z s K X D n M fb) (h0 : H[0]? = some (.inl (0, N, .inl f0))) (hN : N ≤ 300) (hk : k < 40) : ∃ x H1 A' M', xe (ixP fv) (d + 10) 0 38 [some (.ref (0)), l1, some (.ref (s)), some (.ref (b)), some (.int (nI k)), l5, l6, l7, l8, l9, l10, l11, l12, l13, l14, l15, l16, l17, l18, l19, l20, l21, l22, l23, l24, l25, l26, l27, l28, l29, l30, l31] [] H = xe (ixP fv) (d + 10) 0 127 [some (.ref (0)), l1, some (.ref (s)), some (.ref (b)), some (.int (nI k)), some (.int (x)), some (.int (nI (n 2))), some (.int (nI (n 4))), some (.int (nI (n 5))), some (.ref (H1.length)), some (.int (itr (fun k s => s + sLi M' k) 0 0 0)), some (.int (itr (fun k s => s + M' 2 k 1) 0 0 0)), some (.int (itr (fun k s => s + M' 2 k 3) 0 0 0)), some (.int (nI 0)), l14, l15, l16, l17, l18, l19, l20, l21, l22, l23, l24, l25, l26, l27, l28, l29, l30, l31] [] (H1 ++ ix_gr H1.length (n 2) 7) ∧ HI H1 b tp rd pl t t2 tb lea len Q A' Z s K X D n M' fb ∧ FP2 H H1 t2 1 6 := by
  have hn := HI_n g
  have c1 : ¬ (40 : Int32) ≤ nI k := show ¬ nI 40 ≤ nI k from nI_ge hk (by omega)
  have c16 : (16 : Int32) ≠ 0 := by decide
  have hm : nI k - nI k / 16 * 16 = nI (k % 16) := by
    show nI k - nI k / nI 16 * nI 16 = _
    rw [pk_div (a := k) (d := 16) (by omega) (by omega) (by omega), pk_mul, pk_sub (Nat.div_mul_le_self k 16)]
    congr 1
    omega
  have e1 := fun d => m168 (fv := fv) (d := d) (k := k % 16) h0 hN (by omega)
  obtain ⟨H1, A1, M1, e2, g1, f1⟩ := m174 (fv := fv) (d := d) (x := cel f0 N (k % 16) >>> (nI k / 16 * 6 &&& 31) + 47 * nI k) g
  refine ⟨cel f0 N (k % 16) >>> (nI k / 16 * 6 &&& 31) + 47 * nI k, H1, A1, M1, ?_, g1, f1⟩
  have w3 := fun d => hw94_3 (fv := fv) (d := d) g1
  have w5 := fun d => hw94_5 (fv := fv) (d := d) g1
  have w6 := fun d => hw94_6 (fv := fv) (d := d) g1
  have b2 := bg (m := n 2) (by omega)
  have b7 : ix_big 7 = true := bg (m := 7) (by decide)
  have k2 := nI_clamp (n := n 2) (by omega)
  have k7 : (7 : Int32).toNatClampNeg = 7 := nI_clamp (n := 7) (by decide)
  simp only [q0_38 (x := nI k), q0_40, q0_42, q0_45, q0_46, q0_48, q0_51, q0_54, q0_56, q0_59, q0_61, q0_62, q0_63, q0_65, q0_67, q0_68, q0_69, q0_71, q0_72, q0_73, q0_75, q0_78, q0_81, q0_82 (st := []), q0_83, q0_84, q0_85, q0_88, q0_90, q0_91, q0_92, q0_95, q0_97, q0_98, q0_100, q0_103, q0_105, q0_107, q0_113, q0_115, q0_116, q0_118, q0_119, q0_121, q0_122, q0_124, q0_125, q0_50 c16, q0_58 c16, q0_109 b2 b7, i10, eq_self, ft0, ft1, b01_ft, k1r, k1i, xG_some, xH_some, xC_v, xC_n, if_true, if_false, not_true_eq_false, not_false_eq_true, ix_st, ix_st2, List.getElem?_cons_succ, List.getElem?_cons_zero, List.set_cons_succ, List.set_cons_zero, Value.category, List.map_cons, List.map_nil, List.sum_cons, List.sum_nil, Nat.reduceAdd, Nat.reduceLeDiff, Nat.reduceEqDiff, Nat.zero_le, reduceCtorEq, ↓reduceIte, eq_self, xit, c1, hm, e1, e2, w3, w5, w6, k2, k7, HI_is g1]
  rfl
end LAWR18
