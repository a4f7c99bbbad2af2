/-! THE LAW: a round; cradles behind the hour (written by gen9988.py). -/
section LAWR16
variable {fv : Value} {d : Nat} {H : ix_H} {b tp rd pl t t2 tb o : Nat} {lea len : Int32} {Q A A' Z Z' : Mem} {s : Nat} {K : Nat → Option (Nat × Nat)} {X : Nat → Nat} {D : Nat → Nat → Nat} {n fb : Nat → Nat} {M M' : Mm} {p c f q m k v j : Nat} {w i x : Int32} {F : Nat → Nat → Int32} {l0 l1 l2 l3 l4 l5 l6 l7 l8 l9 l10 l11 l12 l13 l14 l15 l16 l17 l18 l19 l20 l21 l22 l23 l24 l25 l26 l27 l28 l29 l30 l31 : Option Value} {A1 : Mem} {x27 : Int32}
theorem r29_step (g : HI H b tp rd pl t t2 tb lea len Q A1 Z s K X D n (sPs M n) fb) (hl : LC (M 4 c) (sPs M n 4 c)) (G : isG H o (n 4) 6 F) (ho : t2 + 10 ≤ o) (hF : ∀ c, c < n 4 → ∀ i, i < 6 → F c i = cv M n c i) (hc : c < n 4) : ∃ m29 m30 m31, xe (ixP fv) (d + 10) 0 1190 [l0, l1, l2, some (.ref (b)), l4, l5, l6, some (.int (nI (n 4))), l8, l9, l10, l11, l12, some (.ref (o)), l14, l15, l16, l17, l18, l19, l20, l21, l22, l23, l24, l25, l26, some (.int (x27)), some (.int (nI (c))), l29, l30, l31] [] H = xe (ixP fv) (d + 10) 0 1190 [l0, l1, l2, some (.ref (b)), l4, l5, l6, some (.int (nI (n 4))), l8, l9, l10, l11, l12, some (.ref (o)), l14, l15, l16, l17, l18, l19, l20, l21, l22, l23, l24, l25, l26, some (.int (x27)), some (.int (nI (c + 1))), m29, m30, m31] [] H := by
  obtain ⟨a1, a2, a3, a4, a5, a6⟩ := HW_lt g.1
  have hn := HI_n g
  have e0 := rQ_g (fv := fv) G (by omega) hc (by omega)
  have r : ∀ j, j < 6 → rA H (o + 1 + c) (nI j) = some (.int (cv M n c j)) := fun j hj => by rw [rA_g G hc hj (by decide), hF c hc j hj]
  have r0 : rA H (o + 1 + c) 0 = some (.int (M 4 c 0)) := r 0 (by decide)
  have r1 : rA H (o + 1 + c) 1 = some (.int (M 4 c 1)) := r 1 (by decide)
  have r2 : rA H (o + 1 + c) 2 = some (.int (M 4 c 2)) := r 2 (by decide)
  have r3 : rA H (o + 1 + c) 3 = some (.int (M 4 c 3)) := r 3 (by decide)
  have r5 : rA H (o + 1 + c) 5 = some (.int (M 4 c 4)) := r 5 (by decide)
  have w0 := fun d => hw97_0 (fv := fv) (d := d) g hc
  have w3 := fun d => hw97_3 (fv := fv) (d := d) g hc
  have w5 := fun d => hw97_5 (fv := fv) (d := d) g hc
  have c1 : ¬ nI (n 4) ≤ nI c := nI_ge hc (by omega)
  have ec : nI c + 1 = nI (c + 1) := nI_add c 1
  obtain ⟨k1, k2, k3, k4, k5, k6⟩ := hl
  have k1 := Int32.not_lt.mpr k1
  have k2 := Int32.not_lt.mpr k2
  have k4 := Int32.not_lt.mpr k4
  generalize sPs M n 4 c 0 = y0 at *
  generalize sPs M n 4 c 3 = y3 at *
  generalize sPs M n 4 c 4 = y4 at *
  generalize M 4 c 0 = x0 at *
  generalize M 4 c 1 = x1 at *
  generalize M 4 c 2 = x2 at *
  generalize M 4 c 3 = x3 at *
  generalize M 4 c 4 = x4 at *
  have c20 : ¬ (20 : Int32) = 0 := by decide
  by_cases z : y0 = 0
  · rw [if_pos z] at k5 k6
    subst z
    refine ⟨some (.int (0 - x0)), some (.int (y4 - x4)), some (.int (20)), ?_⟩
    by_cases y : y4 - x4 ≤ 0
    · rw [if_pos y] at k5
      simp only [q0_1190 (x := nI c), q0_1192, q0_1194, q0_1197, q0_1198, q0_1200, q0_1201, q0_1204, q0_1206, q0_1208, q0_1209, q0_1210, q0_1211, q0_1212, q0_1214, q0_1215, q0_1217, q0_1218, q0_1221, q0_1223, q0_1225, q0_1226, q0_1227, q0_1228, q0_1229, q0_1231, q0_1232, q0_1234, q0_1235, q0_1238, q0_1241, q0_1243, q0_1246, q0_1248, q0_1250, q0_1251, q0_1252, q0_1253, q0_1255, q0_1257, q0_1259, q0_1261, q0_1262, q0_1263, q0_1264, q0_1267, q0_1269, q0_1270, q0_1272, q0_1274, q0_1275, q0_1276, q0_1277, q0_1280, q0_1282, q0_1285, q0_1287, q0_1289, q0_1291, q0_1292, q0_1293, q0_1294, q0_1297, q0_1298, q0_1300, q0_1301, q0_1304, q0_1306, q0_1308, q0_1311, q0_1312, q0_1315, q0_1316, q0_1317, q0_1320, q0_1322, q0_1325, q0_1327, q0_1330, q0_1331 (st := []), q0_1332, q0_1335, i10, eq_self, ft0, ft1, b01_ft, k1r, k1i, xG_some, xH_some, xC_v, xC_n, if_true, if_false, not_true_eq_false, not_false_eq_true, ix_st, ix_st2, List.getElem?_cons_succ, List.getElem?_cons_zero, List.set_cons_succ, List.set_cons_zero, Value.category, List.map_cons, List.map_nil, List.sum_cons, List.sum_nil, Nat.reduceAdd, Nat.reduceLeDiff, Nat.reduceEqDiff, Nat.zero_le, reduceCtorEq, ↓reduceIte, eq_self, xit, e0, r0, r1, r2, r3, r5, w0, w3, w5, c1, ec, k1, k2, k3, k4, k5, c20, y, HI_is g]
    · rw [if_neg y] at k5
      simp only [q0_1190 (x := nI c), q0_1192, q0_1194, q0_1197, q0_1198, q0_1200, q0_1201, q0_1204, q0_1206, q0_1208, q0_1209, q0_1210, q0_1211, q0_1212, q0_1214, q0_1215, q0_1217, q0_1218, q0_1221, q0_1223, q0_1225, q0_1226, q0_1227, q0_1228, q0_1229, q0_1231, q0_1232, q0_1234, q0_1235, q0_1238, q0_1241, q0_1243, q0_1246, q0_1248, q0_1250, q0_1251, q0_1252, q0_1253, q0_1255, q0_1257, q0_1259, q0_1261, q0_1262, q0_1263, q0_1264, q0_1267, q0_1269, q0_1270, q0_1272, q0_1274, q0_1275, q0_1276, q0_1277, q0_1280, q0_1282, q0_1285, q0_1287, q0_1289, q0_1291, q0_1292, q0_1293, q0_1294, q0_1297, q0_1298, q0_1300, q0_1301, q0_1304, q0_1306, q0_1308, q0_1311, q0_1312, q0_1315, q0_1316, q0_1317, q0_1320, q0_1322, q0_1325, q0_1327, q0_1330, q0_1331 (st := []), q0_1332, q0_1335, i10, eq_self, ft0, ft1, b01_ft, k1r, k1i, xG_some, xH_some, xC_v, xC_n, if_true, if_false, not_true_eq_false, not_false_eq_true, ix_st, ix_st2, List.getElem?_cons_succ, List.getElem?_cons_zero, List.set_cons_succ, List.set_cons_zero, Value.category, List.map_cons, List.map_nil, List.sum_cons, List.sum_nil, Nat.reduceAdd, Nat.reduceLeDiff, Nat.reduceEqDiff, Nat.zero_le, reduceCtorEq, ↓reduceIte, eq_self, xit, e0, r0, r1, r2, r3, r5, w0, w3, w5, c1, ec, k1, k2, k3, k4, k5, c20, y, HI_is g]
  · rw [if_neg z] at k5 k6
    refine ⟨some (.int (y0 - x0)), some (.int (y4 - x4)), some (.int (x3)), ?_⟩
    by_cases u : x3 = 0
    · have y := k6 u
      rw [if_pos y] at k5
      subst u
      simp only [q0_1190 (x := nI c), q0_1192, q0_1194, q0_1197, q0_1198, q0_1200, q0_1201, q0_1204, q0_1206, q0_1208, q0_1209, q0_1210, q0_1211, q0_1212, q0_1214, q0_1215, q0_1217, q0_1218, q0_1221, q0_1223, q0_1225, q0_1226, q0_1227, q0_1228, q0_1229, q0_1231, q0_1232, q0_1234, q0_1235, q0_1238, q0_1241, q0_1243, q0_1246, q0_1248, q0_1250, q0_1251, q0_1252, q0_1253, q0_1255, q0_1257, q0_1259, q0_1261, q0_1262, q0_1263, q0_1264, q0_1267, q0_1269, q0_1270, q0_1272, q0_1274, q0_1275, q0_1276, q0_1277, q0_1280, q0_1282, q0_1285, q0_1287, q0_1289, q0_1291, q0_1292, q0_1293, q0_1294, q0_1297, q0_1298, q0_1300, q0_1301, q0_1304, q0_1306, q0_1308, q0_1311, q0_1312, q0_1315, q0_1316, q0_1317, q0_1320, q0_1322, q0_1325, q0_1327, q0_1330, q0_1331 (st := []), q0_1332, q0_1335, i10, eq_self, ft0, ft1, b01_ft, k1r, k1i, xG_some, xH_some, xC_v, xC_n, if_true, if_false, not_true_eq_false, not_false_eq_true, ix_st, ix_st2, List.getElem?_cons_succ, List.getElem?_cons_zero, List.set_cons_succ, List.set_cons_zero, Value.category, List.map_cons, List.map_nil, List.sum_cons, List.sum_nil, Nat.reduceAdd, Nat.reduceLeDiff, Nat.reduceEqDiff, Nat.zero_le, reduceCtorEq, ↓reduceIte, eq_self, xit, e0, r0, r1, r2, r3, r5, w0, w3, w5, c1, ec, k1, k2, k3, k4, k5, z, y, HI_is g]
    · by_cases y : y4 - x4 ≤ 0
      · rw [if_pos y] at k5
        simp only [q0_1190 (x := nI c), q0_1192, q0_1194, q0_1197, q0_1198, q0_1200, q0_1201, q0_1204, q0_1206, q0_1208, q0_1209, q0_1210, q0_1211, q0_1212, q0_1214, q0_1215, q0_1217, q0_1218, q0_1221, q0_1223, q0_1225, q0_1226, q0_1227, q0_1228, q0_1229, q0_1231, q0_1232, q0_1234, q0_1235, q0_1238, q0_1241, q0_1243, q0_1246, q0_1248, q0_1250, q0_1251, q0_1252, q0_1253, q0_1255, q0_1257, q0_1259, q0_1261, q0_1262, q0_1263, q0_1264, q0_1267, q0_1269, q0_1270, q0_1272, q0_1274, q0_1275, q0_1276, q0_1277, q0_1280, q0_1282, q0_1285, q0_1287, q0_1289, q0_1291, q0_1292, q0_1293, q0_1294, q0_1297, q0_1298, q0_1300, q0_1301, q0_1304, q0_1306, q0_1308, q0_1311, q0_1312, q0_1315, q0_1316, q0_1317, q0_1320, q0_1322, q0_1325, q0_1327, q0_1330, q0_1331 (st := []), q0_1332, q0_1335, i10, eq_self, ft0, ft1, b01_ft, k1r, k1i, xG_some, xH_some, xC_v, xC_n, if_true, if_false, not_true_eq_false, not_false_eq_true, ix_st, ix_st2, List.getElem?_cons_succ, List.getElem?_cons_zero, List.set_cons_succ, List.set_cons_zero, Value.category, List.map_cons, List.map_nil, List.sum_cons, List.sum_nil, Nat.reduceAdd, Nat.reduceLeDiff, Nat.reduceEqDiff, Nat.zero_le, reduceCtorEq, ↓reduceIte, eq_self, xit, e0, r0, r1, r2, r3, r5, w0, w3, w5, c1, ec, k1, k2, k3, k4, k5, z, u, y, HI_is g]
      · rw [if_neg y] at k5
        simp only [q0_1190 (x := nI c), q0_1192, q0_1194, q0_1197, q0_1198, q0_1200, q0_1201, q0_1204, q0_1206, q0_1208, q0_1209, q0_1210, q0_1211, q0_1212, q0_1214, q0_1215, q0_1217, q0_1218, q0_1221, q0_1223, q0_1225, q0_1226, q0_1227, q0_1228, q0_1229, q0_1231, q0_1232, q0_1234, q0_1235, q0_1238, q0_1241, q0_1243, q0_1246, q0_1248, q0_1250, q0_1251, q0_1252, q0_1253, q0_1255, q0_1257, q0_1259, q0_1261, q0_1262, q0_1263, q0_1264, q0_1267, q0_1269, q0_1270, q0_1272, q0_1274, q0_1275, q0_1276, q0_1277, q0_1280, q0_1282, q0_1285, q0_1287, q0_1289, q0_1291, q0_1292, q0_1293, q0_1294, q0_1297, q0_1298, q0_1300, q0_1301, q0_1304, q0_1306, q0_1308, q0_1311, q0_1312, q0_1315, q0_1316, q0_1317, q0_1320, q0_1322, q0_1325, q0_1327, q0_1330, q0_1331 (st := []), q0_1332, q0_1335, i10, eq_self, ft0, ft1, b01_ft, k1r, k1i, xG_some, xH_some, xC_v, xC_n, if_true, if_false, not_true_eq_false, not_false_eq_true, ix_st, ix_st2, List.getElem?_cons_succ, List.getElem?_cons_zero, List.set_cons_succ, List.set_cons_zero, Value.category, List.map_cons, List.map_nil, List.sum_cons, List.sum_nil, Nat.reduceAdd, Nat.reduceLeDiff, Nat.reduceEqDiff, Nat.zero_le, reduceCtorEq, ↓reduceIte, eq_self, xit, e0, r0, r1, r2, r3, r5, w0, w3, w5, c1, ec, k1, k2, k3, k4, k5, z, u, y, HI_is g]
/-- all cradles -/
theorem r29_all (g : HI H b tp rd pl t t2 tb lea len Q A1 Z s K X D n (sPs M n) fb) (hl : ∀ c, c < n 4 → LC (M 4 c) (sPs M n 4 c)) (G : isG H o (n 4) 6 F) (ho : t2 + 10 ≤ o) (hF : ∀ c, c < n 4 → ∀ i, i < 6 → F c i = cv M n c i) : ∀ (r c : Nat) (l29 l30 l31 : Option Value), c + r = n 4 → ∃ m29 m30 m31, xe (ixP fv) (d + 10) 0 1190 [l0, l1, l2, some (.ref (b)), l4, l5, l6, some (.int (nI (n 4))), l8, l9, l10, l11, l12, some (.ref (o)), l14, l15, l16, l17, l18, l19, l20, l21, l22, l23, l24, l25, l26, some (.int (x27)), some (.int (nI (c))), l29, l30, l31] [] H = xe (ixP fv) (d + 10) 0 1190 [l0, l1, l2, some (.ref (b)), l4, l5, l6, some (.int (nI (n 4))), l8, l9, l10, l11, l12, some (.ref (o)), l14, l15, l16, l17, l18, l19, l20, l21, l22, l23, l24, l25, l26, some (.int (x27)), some (.int (nI (n 4))), m29, m30, m31] [] H
  | 0, c, l29, l30, l31, e => by
    have : c = n 4 := by omega
    subst this
    exact ⟨l29, l30, l31, rfl⟩
  | r + 1, c, l29, l30, l31, e => by
    obtain ⟨m29, m30, m31, e1⟩ := r29_step (fv := fv) (d := d) (x27 := x27) (c := c) (l0 := l0) (l1 := l1) (l2 := l2) (l4 := l4) (l5 := l5) (l6 := l6) (l8 := l8) (l9 := l9) (l10 := l10) (l11 := l11) (l12 := l12) (l14 := l14) (l15 := l15) (l16 := l16) (l17 := l17) (l18 := l18) (l19 := l19) (l20 := l20) (l21 := l21) (l22 := l22) (l23 := l23) (l24 := l24) (l25 := l25) (l26 := l26) (l29 := l29) (l30 := l30) (l31 := l31) g (hl c (by omega)) G ho hF (by omega)
    obtain ⟨x29, x30, x31, e2⟩ := r29_all g hl G ho hF r (c + 1) m29 m30 m31 (by omega)
    exact ⟨x29, x30, x31, e1.trans e2⟩
theorem r29 (g : HI H b tp rd pl t t2 tb lea len Q A1 Z s K X D n (sPs M n) fb) (hl : ∀ c, c < n 4 → LC (M 4 c) (sPs M n 4 c)) (G : isG H o (n 4) 6 F) (ho : t2 + 10 ≤ o) (hF : ∀ c, c < n 4 → ∀ i, i < 6 → F c i = cv M n c i) : ∃ m28 m29 m30 m31, xe (ixP fv) (d + 10) 0 1187 [l0, l1, l2, some (.ref (b)), l4, l5, l6, some (.int (nI (n 4))), l8, l9, l10, l11, l12, some (.ref (o)), l14, l15, l16, l17, l18, l19, l20, l21, l22, l23, l24, l25, l26, some (.int (x27)), l28, l29, l30, l31] [] H = xe (ixP fv) (d + 10) 0 1338 [l0, l1, l2, some (.ref (b)), l4, l5, l6, some (.int (nI (n 4))), l8, l9, l10, l11, l12, some (.ref (o)), l14, l15, l16, l17, l18, l19, l20, l21, l22, l23, l24, l25, l26, some (.int (x27)), m28, m29, m30, m31] [] H := by
  obtain ⟨m29, m30, m31, e1⟩ := r29_all (fv := fv) (d := d) (x27 := x27) (l0 := l0) (l1 := l1) (l2 := l2) (l4 := l4) (l5 := l5) (l6 := l6) (l8 := l8) (l9 := l9) (l10 := l10) (l11 := l11) (l12 := l12) (l14 := l14) (l15 := l15) (l16 := l16) (l17 := l17) (l18 := l18) (l19 := l19) (l20 := l20) (l21 := l21) (l22 := l22) (l23 := l23) (l24 := l24) (l25 := l25) (l26 := l26) g hl G ho hF (n 4) 0 l29 l30 l31 (by omega)
  have c1 : nI (n 4) ≤ nI (n 4) := Int32.le_refl _
  refine ⟨some (.int (nI (n 4))), m29, m30, m31, Eq.trans ?_ (e1.trans ?_)⟩
  · simp only [q0_1187, q0_1188, i10, eq_self, ft0, ft1, b01_ft, k1r, k1i, xG_some, xH_some, xC_v, xC_n, if_true, if_false, not_true_eq_false, not_false_eq_true, ix_st, ix_st2, List.getElem?_cons_succ, List.getElem?_cons_zero, List.set_cons_succ, List.set_cons_zero, Value.category, List.map_cons, List.map_nil, List.sum_cons, List.sum_nil, Nat.reduceAdd, Nat.reduceLeDiff, Nat.reduceEqDiff, Nat.zero_le, reduceCtorEq, ↓reduceIte, eq_self, xit]
    rfl
  · simp only [q0_1190 (x := nI (n 4)), q0_1192, q0_1194, i10, eq_self, ft0, ft1, b01_ft, k1r, k1i, xG_some, xH_some, xC_v, xC_n, if_true, if_false, not_true_eq_false, not_false_eq_true, ix_st, ix_st2, List.getElem?_cons_succ, List.getElem?_cons_zero, List.set_cons_succ, List.set_cons_zero, Value.category, List.map_cons, List.map_nil, List.sum_cons, List.sum_nil, Nat.reduceAdd, Nat.reduceLeDiff, Nat.reduceEqDiff, Nat.zero_le, reduceCtorEq, ↓reduceIte, eq_self, xit, c1]
end LAWR16
