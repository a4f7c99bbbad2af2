/-! THE LAW: a round; panes behind the hour (written by gen9986.py). -/
section LAWR14
variable {fv : Value} {d : Nat} {H : ix_H} {b tp rd pl t t2 tb o : Nat} {lea len : Int32} {Q A A' Z Z' : Mem} {s : Nat} {K : Nat → Option (Nat × Nat)} {X : Nat → Nat} {D : Nat → Nat → Nat} {n fb : Nat → Nat} {M M' : Mm} {p c f q m k v j : Nat} {w i x : Int32} {F : Nat → Nat → Int32} {l0 l1 l2 l3 l4 l5 l6 l7 l8 l9 l10 l11 l12 l13 l14 l15 l16 l17 l18 l19 l20 l21 l22 l23 l24 l25 l26 l27 l28 l29 l30 l31 : Option Value} {A1 : Mem} {x26 : Int32}
theorem r27_step (g : HI H b tp rd pl t t2 tb lea len Q A1 Z s K X D n (sPs M n) fb) (h0 : INV Q A M n fb) (G : isG H o (n 2) 7 F) (ho : t2 + 10 ≤ o) (hF : ∀ p, p < n 2 → ∀ i, i < 7 → F p i = pv Q A' M n p i) (hp : p < n 2) : ∃ m29, xe (ixP fv) (d + 10) 0 1053 [l0, l1, l2, some (.ref (b)), l4, l5, some (.int (nI (n 2))), l7, l8, some (.ref (o)), l10, l11, l12, l13, l14, l15, l16, l17, l18, l19, l20, l21, l22, l23, l24, l25, some (.int (x26)), some (.int ((itr (fun p s => s + if M 2 p 3 = 0 ∧ sPs M n 2 p 3 = 1 then 1 else 0) 0 (p) 0))), some (.int (nI (p))), l29, l30, l31] [] H = xe (ixP fv) (d + 10) 0 1053 [l0, l1, l2, some (.ref (b)), l4, l5, some (.int (nI (n 2))), l7, l8, some (.ref (o)), l10, l11, l12, l13, l14, l15, l16, l17, l18, l19, l20, l21, l22, l23, l24, l25, some (.int (x26)), some (.int ((itr (fun p s => s + if M 2 p 3 = 0 ∧ sPs M n 2 p 3 = 1 then 1 else 0) 0 (p + 1) 0))), some (.int (nI (p + 1))), m29, l30, l31] [] H := by
  obtain ⟨a1, a2, a3, a4, a5, a6⟩ := HW_lt g.1
  have hn := HI_n g
  obtain ⟨p1, p2⟩ := (hr_panes h0).2 p hp
  have e0 := rQ_g (fv := fv) G (by omega) hp (by omega)
  have r3 : rA H (o + 1 + p) 3 = some (.int (M 2 p 3)) := (rA_g (j := 3) G hp (by decide) (by decide)).trans (by rw [hF p hp 3 (by decide)]; rfl)
  have r2 : rA H (o + 1 + p) 2 = some (.int (M 2 p 2)) := (rA_g (j := 2) G hp (by decide) (by decide)).trans (by rw [hF p hp 2 (by decide)]; rfl)
  have w1 := fun d => hw95_1 (fv := fv) (d := d) g hp
  have w2 := fun d => hw95_2 (fv := fv) (d := d) g hp
  have w3 := fun d => hw95_3 (fv := fv) (d := d) g hp
  have c1 : ¬ nI (n 2) ≤ nI p := nI_ge hp (by omega)
  have ep : nI p + 1 = nI (p + 1) := nI_add p 1
  have c10 : ¬ (10 : Int32) = 0 := by decide
  have c01 : ¬ (0 : Int32) = 1 := by decide
  rw [itr_snoc, Nat.zero_add]
  generalize (itr (fun p s => s + if M 2 p 3 = 0 ∧ sPs M n 2 p 3 = 1 then 1 else 0) 0 (p) 0) = v
  by_cases k : sPs M n 2 p 3 = 1
  · refine ⟨some (.int (1)), ?_⟩
    rw [k] at w3
    rcases h0.1.2.2.2.1 p hp with hg | ⟨hg, -⟩
    · rw [if_pos ⟨hg, k⟩]
      rw [hg] at r3
      simp only [q0_1053 (x := nI p), q0_1055, q0_1057, q0_1060, q0_1061, q0_1063, q0_1064, q0_1067, q0_1068, q0_1071, q0_1072, q0_1075, q0_1076, q0_1078, q0_1080, q0_1082, q0_1085, q0_1087, q0_1089, q0_1090, q0_1091, q0_1092, q0_1095, q0_1096, q0_1099, q0_1100, q0_1101, q0_1103, q0_1105, q0_1107, q0_1108, q0_1109, q0_1110, q0_1111, q0_1114, q0_1116, q0_1119, q0_1121, q0_1124, q0_1125, q0_1127, q0_1128, q0_1131, q0_1133, q0_1135, q0_1136, q0_1137, q0_1138, q0_1139, q0_1141, q0_1142, q0_1145, q0_1147, q0_1148, q0_1149, q0_1152, q0_1153 (st := []), q0_1154, q0_1157, i10, eq_self, ft0, ft1, b01_ft, k1r, k1i, xG_some, xH_some, xC_v, xC_n, if_true, if_false, not_true_eq_false, not_false_eq_true, ix_st, ix_st2, List.getElem?_cons_succ, List.getElem?_cons_zero, List.set_cons_succ, List.set_cons_zero, Value.category, List.map_cons, List.map_nil, List.sum_cons, List.sum_nil, Nat.reduceAdd, Nat.reduceLeDiff, Nat.reduceEqDiff, Nat.zero_le, reduceCtorEq, ↓reduceIte, eq_self, xit, e0, r3, r2, w3, c1, ep, c01, HI_is g]
    · rw [if_neg (show ¬ (M 2 p 3 = 0 ∧ sPs M n 2 p 3 = 1) from fun q => by rw [hg] at q; exact absurd q.1 (by decide))]
      rw [hg] at r3
      simp only [q0_1053 (x := nI p), q0_1055, q0_1057, q0_1060, q0_1061, q0_1063, q0_1064, q0_1067, q0_1068, q0_1071, q0_1072, q0_1075, q0_1076, q0_1078, q0_1080, q0_1082, q0_1085, q0_1087, q0_1089, q0_1090, q0_1091, q0_1092, q0_1095, q0_1096, q0_1099, q0_1100, q0_1101, q0_1103, q0_1105, q0_1107, q0_1108, q0_1109, q0_1110, q0_1111, q0_1114, q0_1116, q0_1119, q0_1121, q0_1124, q0_1125, q0_1127, q0_1128, q0_1131, q0_1133, q0_1135, q0_1136, q0_1137, q0_1138, q0_1139, q0_1141, q0_1142, q0_1145, q0_1147, q0_1148, q0_1149, q0_1152, q0_1153 (st := []), q0_1154, q0_1157, i10, eq_self, ft0, ft1, b01_ft, k1r, k1i, xG_some, xH_some, xC_v, xC_n, if_true, if_false, not_true_eq_false, not_false_eq_true, ix_st, ix_st2, List.getElem?_cons_succ, List.getElem?_cons_zero, List.set_cons_succ, List.set_cons_zero, Value.category, List.map_cons, List.map_nil, List.sum_cons, List.sum_nil, Nat.reduceAdd, Nat.reduceLeDiff, Nat.reduceEqDiff, Nat.zero_le, reduceCtorEq, ↓reduceIte, eq_self, xit, e0, r3, r2, w3, c1, ep, c01, HI_is g]
  · have hg : ¬ M 2 p 3 = 1 := fun q => k (p1 q)
    obtain ⟨k0, k2⟩ := p2.resolve_left k
    refine ⟨some (.int (0)), ?_⟩
    rw [if_neg (show ¬ (M 2 p 3 = 0 ∧ sPs M n 2 p 3 = 1) from fun q => k q.2)]
    rw [k0] at w3
    simp only [q0_1053 (x := nI p), q0_1055, q0_1057, q0_1060, q0_1061, q0_1063, q0_1064, q0_1067, q0_1068, q0_1071, q0_1072, q0_1075, q0_1076, q0_1078, q0_1080, q0_1082, q0_1085, q0_1087, q0_1089, q0_1090, q0_1091, q0_1092, q0_1095, q0_1096, q0_1099, q0_1100, q0_1101, q0_1103, q0_1105, q0_1107, q0_1108, q0_1109, q0_1110, q0_1111, q0_1114, q0_1116, q0_1119, q0_1121, q0_1124, q0_1125, q0_1127, q0_1128, q0_1131, q0_1133, q0_1135, q0_1136, q0_1137, q0_1138, q0_1139, q0_1141, q0_1142, q0_1145, q0_1148, q0_1149, q0_1152, q0_1153 (st := []), q0_1154, q0_1157, q0_1147 c10, i10, eq_self, ft0, ft1, b01_ft, k1r, k1i, xG_some, xH_some, xC_v, xC_n, if_true, if_false, not_true_eq_false, not_false_eq_true, ix_st, ix_st2, List.getElem?_cons_succ, List.getElem?_cons_zero, List.set_cons_succ, List.set_cons_zero, Value.category, List.map_cons, List.map_nil, List.sum_cons, List.sum_nil, Nat.reduceAdd, Nat.reduceLeDiff, Nat.reduceEqDiff, Nat.zero_le, reduceCtorEq, ↓reduceIte, eq_self, xit, e0, r3, r2, w1, w2, w3, k2, c1, ep, c01, hg, HI_is g]
end LAWR14
