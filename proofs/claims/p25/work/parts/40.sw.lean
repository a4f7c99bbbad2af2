/-! SWITCHES and other places that gen30 left (written by gen40.py). -/
theorem tsw_ne {x n : Int32} {k : Int} (h : ¬ x = n) (e : n.toInt = k) : x.toInt ≠ k := fun q => h (Int32.toInt_inj.mp (q.trans e.symm))
theorem q27_46 {fv : Value} {d : Nat} {st : List Value} {h : ix_H} {l0 l1 l2 l3 l4 l5 : Option Value} {x : Int32} : xe (ixP fv) d 27 46 [l0, l1, l2, l3, l4, l5] (.int x :: st) h = if x = 5 then xe (ixP fv) d 27 202 [l0, l1, l2, l3, l4, l5] st h else if x = 18 then xe (ixP fv) d 27 161 [l0, l1, l2, l3, l4, l5] st h else if x = 19 then xe (ixP fv) d 27 172 [l0, l1, l2, l3, l4, l5] st h else if x = 20 then xe (ixP fv) d 27 183 [l0, l1, l2, l3, l4, l5] st h else if x = 21 then xe (ixP fv) d 27 266 [l0, l1, l2, l3, l4, l5] st h else if x = 22 then xe (ixP fv) d 27 284 [l0, l1, l2, l3, l4, l5] st h else if x = 23 then xe (ixP fv) d 27 218 [l0, l1, l2, l3, l4, l5] st h else if x = 24 then xe (ixP fv) d 27 234 [l0, l1, l2, l3, l4, l5] st h else if x = 25 then xe (ixP fv) d 27 250 [l0, l1, l2, l3, l4, l5] st h else if x = 26 then xe (ixP fv) d 27 314 [l0, l1, l2, l3, l4, l5] st h else if x = 48 then xe (ixP fv) d 27 152 [l0, l1, l2, l3, l4, l5] st h else if x = 301 then xe (ixP fv) d 27 302 [l0, l1, l2, l3, l4, l5] st h else xe (ixP fv) d 27 336 [l0, l1, l2, l3, l4, l5] st h := by
  by_cases c0 : x = 5
  · subst c0; rw [if_pos rfl]; exact x_lsw (off := 156) (qm27 fv) (show ix_dc ixI27 46 = some (.lookupswitch 290 #[(5, 156), (18, 115), (19, 126), (20, 137), (21, 220), (22, 238), (23, 172), (24, 188), (25, 204), (26, 268), (48, 106), (301, 256)], 106) by decide +kernel) (by decide) (by decide) (by decide) (by decide)
  rw [if_neg c0]
  by_cases c1 : x = 18
  · subst c1; rw [if_pos rfl]; exact x_lsw (off := 115) (qm27 fv) (show ix_dc ixI27 46 = some (.lookupswitch 290 #[(5, 156), (18, 115), (19, 126), (20, 137), (21, 220), (22, 238), (23, 172), (24, 188), (25, 204), (26, 268), (48, 106), (301, 256)], 106) by decide +kernel) (by decide) (by decide) (by decide) (by decide)
  rw [if_neg c1]
  by_cases c2 : x = 19
  · subst c2; rw [if_pos rfl]; exact x_lsw (off := 126) (qm27 fv) (show ix_dc ixI27 46 = some (.lookupswitch 290 #[(5, 156), (18, 115), (19, 126), (20, 137), (21, 220), (22, 238), (23, 172), (24, 188), (25, 204), (26, 268), (48, 106), (301, 256)], 106) by decide +kernel) (by decide) (by decide) (by decide) (by decide)
  rw [if_neg c2]
  by_cases c3 : x = 20
  · subst c3; rw [if_pos rfl]; exact x_lsw (off := 137) (qm27 fv) (show ix_dc ixI27 46 = some (.lookupswitch 290 #[(5, 156), (18, 115), (19, 126), (20, 137), (21, 220), (22, 238), (23, 172), (24, 188), (25, 204), (26, 268), (48, 106), (301, 256)], 106) by decide +kernel) (by decide) (by decide) (by decide) (by decide)
  rw [if_neg c3]
  by_cases c4 : x = 21
  · subst c4; rw [if_pos rfl]; exact x_lsw (off := 220) (qm27 fv) (show ix_dc ixI27 46 = some (.lookupswitch 290 #[(5, 156), (18, 115), (19, 126), (20, 137), (21, 220), (22, 238), (23, 172), (24, 188), (25, 204), (26, 268), (48, 106), (301, 256)], 106) by decide +kernel) (by decide) (by decide) (by decide) (by decide)
  rw [if_neg c4]
  by_cases c5 : x = 22
  · subst c5; rw [if_pos rfl]; exact x_lsw (off := 238) (qm27 fv) (show ix_dc ixI27 46 = some (.lookupswitch 290 #[(5, 156), (18, 115), (19, 126), (20, 137), (21, 220), (22, 238), (23, 172), (24, 188), (25, 204), (26, 268), (48, 106), (301, 256)], 106) by decide +kernel) (by decide) (by decide) (by decide) (by decide)
  rw [if_neg c5]
  by_cases c6 : x = 23
  · subst c6; rw [if_pos rfl]; exact x_lsw (off := 172) (qm27 fv) (show ix_dc ixI27 46 = some (.lookupswitch 290 #[(5, 156), (18, 115), (19, 126), (20, 137), (21, 220), (22, 238), (23, 172), (24, 188), (25, 204), (26, 268), (48, 106), (301, 256)], 106) by decide +kernel) (by decide) (by decide) (by decide) (by decide)
  rw [if_neg c6]
  by_cases c7 : x = 24
  · subst c7; rw [if_pos rfl]; exact x_lsw (off := 188) (qm27 fv) (show ix_dc ixI27 46 = some (.lookupswitch 290 #[(5, 156), (18, 115), (19, 126), (20, 137), (21, 220), (22, 238), (23, 172), (24, 188), (25, 204), (26, 268), (48, 106), (301, 256)], 106) by decide +kernel) (by decide) (by decide) (by decide) (by decide)
  rw [if_neg c7]
  by_cases c8 : x = 25
  · subst c8; rw [if_pos rfl]; exact x_lsw (off := 204) (qm27 fv) (show ix_dc ixI27 46 = some (.lookupswitch 290 #[(5, 156), (18, 115), (19, 126), (20, 137), (21, 220), (22, 238), (23, 172), (24, 188), (25, 204), (26, 268), (48, 106), (301, 256)], 106) by decide +kernel) (by decide) (by decide) (by decide) (by decide)
  rw [if_neg c8]
  by_cases c9 : x = 26
  · subst c9; rw [if_pos rfl]; exact x_lsw (off := 268) (qm27 fv) (show ix_dc ixI27 46 = some (.lookupswitch 290 #[(5, 156), (18, 115), (19, 126), (20, 137), (21, 220), (22, 238), (23, 172), (24, 188), (25, 204), (26, 268), (48, 106), (301, 256)], 106) by decide +kernel) (by decide) (by decide) (by decide) (by decide)
  rw [if_neg c9]
  by_cases c10 : x = 48
  · subst c10; rw [if_pos rfl]; exact x_lsw (off := 106) (qm27 fv) (show ix_dc ixI27 46 = some (.lookupswitch 290 #[(5, 156), (18, 115), (19, 126), (20, 137), (21, 220), (22, 238), (23, 172), (24, 188), (25, 204), (26, 268), (48, 106), (301, 256)], 106) by decide +kernel) (by decide) (by decide) (by decide) (by decide)
  rw [if_neg c10]
  by_cases c11 : x = 301
  · subst c11; rw [if_pos rfl]; exact x_lsw (off := 256) (qm27 fv) (show ix_dc ixI27 46 = some (.lookupswitch 290 #[(5, 156), (18, 115), (19, 126), (20, 137), (21, 220), (22, 238), (23, 172), (24, 188), (25, 204), (26, 268), (48, 106), (301, 256)], 106) by decide +kernel) (by decide) (by decide) (by decide) (by decide)
  rw [if_neg c11]
  exact x_lsw (off := 290) (qm27 fv) (show ix_dc ixI27 46 = some (.lookupswitch 290 #[(5, 156), (18, 115), (19, 126), (20, 137), (21, 220), (22, 238), (23, 172), (24, 188), (25, 204), (26, 268), (48, 106), (301, 256)], 106) by decide +kernel) (by decide) ((lv_osw c0 (by decide)).trans <| (lv_osw c1 (by decide)).trans <| (lv_osw c2 (by decide)).trans <| (lv_osw c3 (by decide)).trans <| (lv_osw c4 (by decide)).trans <| (lv_osw c5 (by decide)).trans <| (lv_osw c6 (by decide)).trans <| (lv_osw c7 (by decide)).trans <| (lv_osw c8 (by decide)).trans <| (lv_osw c9 (by decide)).trans <| (lv_osw c10 (by decide)).trans <| (lv_osw c11 (by decide)).trans <| rfl) (by decide) (by decide)
theorem q28_11 {fv : Value} {d : Nat} {st : List Value} {h : ix_H} {l0 l1 l2 l3 : Option Value} {x : Int32} : xe (ixP fv) d 28 11 [l0, l1, l2, l3] (.int x :: st) h = if x = 27 then xe (ixP fv) d 28 288 [l0, l1, l2, l3] st h else if x = 29 then xe (ixP fv) d 28 164 [l0, l1, l2, l3] st h else if x = 30 then xe (ixP fv) d 28 176 [l0, l1, l2, l3] st h else if x = 42 then xe (ixP fv) d 28 136 [l0, l1, l2, l3] st h else if x = 43 then xe (ixP fv) d 28 116 [l0, l1, l2, l3] st h else if x = 45 then xe (ixP fv) d 28 126 [l0, l1, l2, l3] st h else if x = 47 then xe (ixP fv) d 28 146 [l0, l1, l2, l3] st h else if x = 60 then xe (ixP fv) d 28 188 [l0, l1, l2, l3] st h else if x = 61 then xe (ixP fv) d 28 228 [l0, l1, l2, l3] st h else if x = 62 then xe (ixP fv) d 28 208 [l0, l1, l2, l3] st h else if x = 316 then xe (ixP fv) d 28 248 [l0, l1, l2, l3] st h else if x = 318 then xe (ixP fv) d 28 268 [l0, l1, l2, l3] st h else xe (ixP fv) d 28 298 [l0, l1, l2, l3] st h := by
  by_cases c0 : x = 27
  · subst c0; rw [if_pos rfl]; exact x_lsw (off := 277) (qm28 fv) (show ix_dc ixI28 11 = some (.lookupswitch 287 #[(27, 277), (29, 153), (30, 165), (42, 125), (43, 105), (45, 115), (47, 135), (60, 177), (61, 217), (62, 197), (316, 237), (318, 257)], 105) by decide +kernel) (by decide) (by decide) (by decide) (by decide)
  rw [if_neg c0]
  by_cases c1 : x = 29
  · subst c1; rw [if_pos rfl]; exact x_lsw (off := 153) (qm28 fv) (show ix_dc ixI28 11 = some (.lookupswitch 287 #[(27, 277), (29, 153), (30, 165), (42, 125), (43, 105), (45, 115), (47, 135), (60, 177), (61, 217), (62, 197), (316, 237), (318, 257)], 105) by decide +kernel) (by decide) (by decide) (by decide) (by decide)
  rw [if_neg c1]
  by_cases c2 : x = 30
  · subst c2; rw [if_pos rfl]; exact x_lsw (off := 165) (qm28 fv) (show ix_dc ixI28 11 = some (.lookupswitch 287 #[(27, 277), (29, 153), (30, 165), (42, 125), (43, 105), (45, 115), (47, 135), (60, 177), (61, 217), (62, 197), (316, 237), (318, 257)], 105) by decide +kernel) (by decide) (by decide) (by decide) (by decide)
  rw [if_neg c2]
  by_cases c3 : x = 42
  · subst c3; rw [if_pos rfl]; exact x_lsw (off := 125) (qm28 fv) (show ix_dc ixI28 11 = some (.lookupswitch 287 #[(27, 277), (29, 153), (30, 165), (42, 125), (43, 105), (45, 115), (47, 135), (60, 177), (61, 217), (62, 197), (316, 237), (318, 257)], 105) by decide +kernel) (by decide) (by decide) (by decide) (by decide)
  rw [if_neg c3]
  by_cases c4 : x = 43
  · subst c4; rw [if_pos rfl]; exact x_lsw (off := 105) (qm28 fv) (show ix_dc ixI28 11 = some (.lookupswitch 287 #[(27, 277), (29, 153), (30, 165), (42, 125), (43, 105), (45, 115), (47, 135), (60, 177), (61, 217), (62, 197), (316, 237), (318, 257)], 105) by decide +kernel) (by decide) (by decide) (by decide) (by decide)
  rw [if_neg c4]
  by_cases c5 : x = 45
  · subst c5; rw [if_pos rfl]; exact x_lsw (off := 115) (qm28 fv) (show ix_dc ixI28 11 = some (.lookupswitch 287 #[(27, 277), (29, 153), (30, 165), (42, 125), (43, 105), (45, 115), (47, 135), (60, 177), (61, 217), (62, 197), (316, 237), (318, 257)], 105) by decide +kernel) (by decide) (by decide) (by decide) (by decide)
  rw [if_neg c5]
  by_cases c6 : x = 47
  · subst c6; rw [if_pos rfl]; exact x_lsw (off := 135) (qm28 fv) (show ix_dc ixI28 11 = some (.lookupswitch 287 #[(27, 277), (29, 153), (30, 165), (42, 125), (43, 105), (45, 115), (47, 135), (60, 177), (61, 217), (62, 197), (316, 237), (318, 257)], 105) by decide +kernel) (by decide) (by decide) (by decide) (by decide)
  rw [if_neg c6]
  by_cases c7 : x = 60
  · subst c7; rw [if_pos rfl]; exact x_lsw (off := 177) (qm28 fv) (show ix_dc ixI28 11 = some (.lookupswitch 287 #[(27, 277), (29, 153), (30, 165), (42, 125), (43, 105), (45, 115), (47, 135), (60, 177), (61, 217), (62, 197), (316, 237), (318, 257)], 105) by decide +kernel) (by decide) (by decide) (by decide) (by decide)
  rw [if_neg c7]
  by_cases c8 : x = 61
  · subst c8; rw [if_pos rfl]; exact x_lsw (off := 217) (qm28 fv) (show ix_dc ixI28 11 = some (.lookupswitch 287 #[(27, 277), (29, 153), (30, 165), (42, 125), (43, 105), (45, 115), (47, 135), (60, 177), (61, 217), (62, 197), (316, 237), (318, 257)], 105) by decide +kernel) (by decide) (by decide) (by decide) (by decide)
  rw [if_neg c8]
  by_cases c9 : x = 62
  · subst c9; rw [if_pos rfl]; exact x_lsw (off := 197) (qm28 fv) (show ix_dc ixI28 11 = some (.lookupswitch 287 #[(27, 277), (29, 153), (30, 165), (42, 125), (43, 105), (45, 115), (47, 135), (60, 177), (61, 217), (62, 197), (316, 237), (318, 257)], 105) by decide +kernel) (by decide) (by decide) (by decide) (by decide)
  rw [if_neg c9]
  by_cases c10 : x = 316
  · subst c10; rw [if_pos rfl]; exact x_lsw (off := 237) (qm28 fv) (show ix_dc ixI28 11 = some (.lookupswitch 287 #[(27, 277), (29, 153), (30, 165), (42, 125), (43, 105), (45, 115), (47, 135), (60, 177), (61, 217), (62, 197), (316, 237), (318, 257)], 105) by decide +kernel) (by decide) (by decide) (by decide) (by decide)
  rw [if_neg c10]
  by_cases c11 : x = 318
  · subst c11; rw [if_pos rfl]; exact x_lsw (off := 257) (qm28 fv) (show ix_dc ixI28 11 = some (.lookupswitch 287 #[(27, 277), (29, 153), (30, 165), (42, 125), (43, 105), (45, 115), (47, 135), (60, 177), (61, 217), (62, 197), (316, 237), (318, 257)], 105) by decide +kernel) (by decide) (by decide) (by decide) (by decide)
  rw [if_neg c11]
  exact x_lsw (off := 287) (qm28 fv) (show ix_dc ixI28 11 = some (.lookupswitch 287 #[(27, 277), (29, 153), (30, 165), (42, 125), (43, 105), (45, 115), (47, 135), (60, 177), (61, 217), (62, 197), (316, 237), (318, 257)], 105) by decide +kernel) (by decide) ((lv_osw c0 (by decide)).trans <| (lv_osw c1 (by decide)).trans <| (lv_osw c2 (by decide)).trans <| (lv_osw c3 (by decide)).trans <| (lv_osw c4 (by decide)).trans <| (lv_osw c5 (by decide)).trans <| (lv_osw c6 (by decide)).trans <| (lv_osw c7 (by decide)).trans <| (lv_osw c8 (by decide)).trans <| (lv_osw c9 (by decide)).trans <| (lv_osw c10 (by decide)).trans <| (lv_osw c11 (by decide)).trans <| rfl) (by decide) (by decide)
theorem q44_75 {fv : Value} {d : Nat} {st : List Value} {h : ix_H} {l0 l1 l2 : Option Value} {x : Int32} : xe (ixP fv) d 44 75 [l0, l1, l2] (.int x :: st) h = if x = 1 then xe (ixP fv) d 44 152 [l0, l1, l2] st h else if x = 4 then xe (ixP fv) d 44 159 [l0, l1, l2] st h else if x = 9 then xe (ixP fv) d 44 166 [l0, l1, l2] st h else if x = 12 then xe (ixP fv) d 44 173 [l0, l1, l2] st h else if x = 14 then xe (ixP fv) d 44 180 [l0, l1, l2] st h else if x = 16 then xe (ixP fv) d 44 187 [l0, l1, l2] st h else xe (ixP fv) d 44 194 [l0, l1, l2] st h := by
  by_cases c0 : x = 1
  · subst c0; rw [if_pos rfl]; exact x_tsw (off := 77) (qm44 fv) (show ix_dc ixI44 75 = some (.tableswitch 119 1 16 #[77, 119, 119, 84, 119, 119, 119, 119, 91, 119, 119, 98, 119, 105, 119, 112], 77) by decide +kernel) (by decide) (by decide) (by decide) (by decide)
  rw [if_neg c0]
  by_cases c1 : x = 4
  · subst c1; rw [if_pos rfl]; exact x_tsw (off := 84) (qm44 fv) (show ix_dc ixI44 75 = some (.tableswitch 119 1 16 #[77, 119, 119, 84, 119, 119, 119, 119, 91, 119, 119, 98, 119, 105, 119, 112], 77) by decide +kernel) (by decide) (by decide) (by decide) (by decide)
  rw [if_neg c1]
  by_cases c2 : x = 9
  · subst c2; rw [if_pos rfl]; exact x_tsw (off := 91) (qm44 fv) (show ix_dc ixI44 75 = some (.tableswitch 119 1 16 #[77, 119, 119, 84, 119, 119, 119, 119, 91, 119, 119, 98, 119, 105, 119, 112], 77) by decide +kernel) (by decide) (by decide) (by decide) (by decide)
  rw [if_neg c2]
  by_cases c3 : x = 12
  · subst c3; rw [if_pos rfl]; exact x_tsw (off := 98) (qm44 fv) (show ix_dc ixI44 75 = some (.tableswitch 119 1 16 #[77, 119, 119, 84, 119, 119, 119, 119, 91, 119, 119, 98, 119, 105, 119, 112], 77) by decide +kernel) (by decide) (by decide) (by decide) (by decide)
  rw [if_neg c3]
  by_cases c4 : x = 14
  · subst c4; rw [if_pos rfl]; exact x_tsw (off := 105) (qm44 fv) (show ix_dc ixI44 75 = some (.tableswitch 119 1 16 #[77, 119, 119, 84, 119, 119, 119, 119, 91, 119, 119, 98, 119, 105, 119, 112], 77) by decide +kernel) (by decide) (by decide) (by decide) (by decide)
  rw [if_neg c4]
  by_cases c5 : x = 16
  · subst c5; rw [if_pos rfl]; exact x_tsw (off := 112) (qm44 fv) (show ix_dc ixI44 75 = some (.tableswitch 119 1 16 #[77, 119, 119, 84, 119, 119, 119, 119, 91, 119, 119, 98, 119, 105, 119, 112], 77) by decide +kernel) (by decide) (by decide) (by decide) (by decide)
  rw [if_neg c5]
  have e0 := tsw_ne c0 (k := 1) (by decide)
  have e1 := tsw_ne c1 (k := 4) (by decide)
  have e2 := tsw_ne c2 (k := 9) (by decide)
  have e3 := tsw_ne c3 (k := 12) (by decide)
  have e4 := tsw_ne c4 (k := 14) (by decide)
  have e5 := tsw_ne c5 (k := 16) (by decide)
  by_cases hr : x.toInt < 1 ∨ 16 < x.toInt
  · exact x_tswD (qm44 fv) (show ix_dc ixI44 75 = some (.tableswitch 119 1 16 #[77, 119, 119, 84, 119, 119, 119, 119, 91, 119, 119, 98, 119, 105, 119, 112], 77) by decide +kernel) hr (by decide) (by decide)
  have key : ∀ j : Nat, j < 16 → ((#[77, 119, 119, 84, 119, 119, 119, 119, 91, 119, 119, 98, 119, 105, 119, 112] : Array Int)[j]? = some 119 ∨ (j = 0 ∨ j = 3 ∨ j = 8 ∨ j = 11 ∨ j = 13 ∨ j = 15)) := by decide
  exact x_tsw (off := 119) (qm44 fv) (show ix_dc ixI44 75 = some (.tableswitch 119 1 16 #[77, 119, 119, 84, 119, 119, 119, 119, 91, 119, 119, 98, 119, 105, 119, 112], 77) by decide +kernel) hr ((key _ (by omega)).resolve_right (by omega)) (by decide) (by decide)
theorem q65_4 {fv : Value} {d : Nat} {st : List Value} {h : ix_H} {l0 l1 l2 : Option Value} {x : Int32} : xe (ixP fv) d 65 4 [l0, l1, l2] (.int x :: st) h = if x = 25 then xe (ixP fv) d 65 100 [l0, l1, l2] st h else if x = 26 then xe (ixP fv) d 65 40 [l0, l1, l2] st h else if x = 91 then xe (ixP fv) d 65 73 [l0, l1, l2] st h else xe (ixP fv) d 65 137 [l0, l1, l2] st h := by
  by_cases c0 : x = 25
  · subst c0; rw [if_pos rfl]; exact x_lsw (off := 96) (qm65 fv) (show ix_dc ixI65 4 = some (.lookupswitch 133 #[(25, 96), (26, 36), (91, 69)], 36) by decide +kernel) (by decide) (by decide) (by decide) (by decide)
  rw [if_neg c0]
  by_cases c1 : x = 26
  · subst c1; rw [if_pos rfl]; exact x_lsw (off := 36) (qm65 fv) (show ix_dc ixI65 4 = some (.lookupswitch 133 #[(25, 96), (26, 36), (91, 69)], 36) by decide +kernel) (by decide) (by decide) (by decide) (by decide)
  rw [if_neg c1]
  by_cases c2 : x = 91
  · subst c2; rw [if_pos rfl]; exact x_lsw (off := 69) (qm65 fv) (show ix_dc ixI65 4 = some (.lookupswitch 133 #[(25, 96), (26, 36), (91, 69)], 36) by decide +kernel) (by decide) (by decide) (by decide) (by decide)
  rw [if_neg c2]
  exact x_lsw (off := 133) (qm65 fv) (show ix_dc ixI65 4 = some (.lookupswitch 133 #[(25, 96), (26, 36), (91, 69)], 36) by decide +kernel) (by decide) ((lv_osw c0 (by decide)).trans <| (lv_osw c1 (by decide)).trans <| (lv_osw c2 (by decide)).trans <| rfl) (by decide) (by decide)
theorem q70_6 {fv : Value} {d : Nat} {st : List Value} {h : ix_H} {l0 l1 l2 : Option Value} {x : Int32} : xe (ixP fv) d 70 6 [l0, l1, l2] (.int x :: st) h = if x = 5 then xe (ixP fv) d 70 254 [l0, l1, l2] st h else if x = 18 then xe (ixP fv) d 70 233 [l0, l1, l2] st h else if x = 19 then xe (ixP fv) d 70 233 [l0, l1, l2] st h else if x = 20 then xe (ixP fv) d 70 233 [l0, l1, l2] st h else if x = 21 then xe (ixP fv) d 70 326 [l0, l1, l2] st h else if x = 22 then xe (ixP fv) d 70 326 [l0, l1, l2] st h else if x = 23 then xe (ixP fv) d 70 254 [l0, l1, l2] st h else if x = 24 then xe (ixP fv) d 70 289 [l0, l1, l2] st h else if x = 29 then xe (ixP fv) d 70 352 [l0, l1, l2] st h else if x = 30 then xe (ixP fv) d 70 352 [l0, l1, l2] st h else if x = 40 then xe (ixP fv) d 70 412 [l0, l1, l2] st h else if x = 45 then xe (ixP fv) d 70 378 [l0, l1, l2] st h else if x = 48 then xe (ixP fv) d 70 196 [l0, l1, l2] st h else xe (ixP fv) d 70 420 [l0, l1, l2] st h := by
  by_cases c0 : x = 5
  · subst c0; rw [if_pos rfl]; exact x_tsw (off := 248) (qm70 fv) (show ix_dc ixI70 6 = some (.tableswitch 414 5 48 #[248, 414, 414, 414, 414, 414, 414, 414, 414, 414, 414, 414, 414, 227, 227, 227, 320, 320, 248, 283, 414, 414, 414, 414, 346, 346, 414, 414, 414, 414, 414, 414, 414, 414, 414, 406, 414, 414, 414, 414, 372, 414, 414, 190], 190) by decide +kernel) (by decide) (by decide) (by decide) (by decide)
  rw [if_neg c0]
  by_cases c1 : x = 18
  · subst c1; rw [if_pos rfl]; exact x_tsw (off := 227) (qm70 fv) (show ix_dc ixI70 6 = some (.tableswitch 414 5 48 #[248, 414, 414, 414, 414, 414, 414, 414, 414, 414, 414, 414, 414, 227, 227, 227, 320, 320, 248, 283, 414, 414, 414, 414, 346, 346, 414, 414, 414, 414, 414, 414, 414, 414, 414, 406, 414, 414, 414, 414, 372, 414, 414, 190], 190) by decide +kernel) (by decide) (by decide) (by decide) (by decide)
  rw [if_neg c1]
  by_cases c2 : x = 19
  · subst c2; rw [if_pos rfl]; exact x_tsw (off := 227) (qm70 fv) (show ix_dc ixI70 6 = some (.tableswitch 414 5 48 #[248, 414, 414, 414, 414, 414, 414, 414, 414, 414, 414, 414, 414, 227, 227, 227, 320, 320, 248, 283, 414, 414, 414, 414, 346, 346, 414, 414, 414, 414, 414, 414, 414, 414, 414, 406, 414, 414, 414, 414, 372, 414, 414, 190], 190) by decide +kernel) (by decide) (by decide) (by decide) (by decide)
  rw [if_neg c2]
  by_cases c3 : x = 20
  · subst c3; rw [if_pos rfl]; exact x_tsw (off := 227) (qm70 fv) (show ix_dc ixI70 6 = some (.tableswitch 414 5 48 #[248, 414, 414, 414, 414, 414, 414, 414, 414, 414, 414, 414, 414, 227, 227, 227, 320, 320, 248, 283, 414, 414, 414, 414, 346, 346, 414, 414, 414, 414, 414, 414, 414, 414, 414, 406, 414, 414, 414, 414, 372, 414, 414, 190], 190) by decide +kernel) (by decide) (by decide) (by decide) (by decide)
  rw [if_neg c3]
  by_cases c4 : x = 21
  · subst c4; rw [if_pos rfl]; exact x_tsw (off := 320) (qm70 fv) (show ix_dc ixI70 6 = some (.tableswitch 414 5 48 #[248, 414, 414, 414, 414, 414, 414, 414, 414, 414, 414, 414, 414, 227, 227, 227, 320, 320, 248, 283, 414, 414, 414, 414, 346, 346, 414, 414, 414, 414, 414, 414, 414, 414, 414, 406, 414, 414, 414, 414, 372, 414, 414, 190], 190) by decide +kernel) (by decide) (by decide) (by decide) (by decide)
  rw [if_neg c4]
  by_cases c5 : x = 22
  · subst c5; rw [if_pos rfl]; exact x_tsw (off := 320) (qm70 fv) (show ix_dc ixI70 6 = some (.tableswitch 414 5 48 #[248, 414, 414, 414, 414, 414, 414, 414, 414, 414, 414, 414, 414, 227, 227, 227, 320, 320, 248, 283, 414, 414, 414, 414, 346, 346, 414, 414, 414, 414, 414, 414, 414, 414, 414, 406, 414, 414, 414, 414, 372, 414, 414, 190], 190) by decide +kernel) (by decide) (by decide) (by decide) (by decide)
  rw [if_neg c5]
  by_cases c6 : x = 23
  · subst c6; rw [if_pos rfl]; exact x_tsw (off := 248) (qm70 fv) (show ix_dc ixI70 6 = some (.tableswitch 414 5 48 #[248, 414, 414, 414, 414, 414, 414, 414, 414, 414, 414, 414, 414, 227, 227, 227, 320, 320, 248, 283, 414, 414, 414, 414, 346, 346, 414, 414, 414, 414, 414, 414, 414, 414, 414, 406, 414, 414, 414, 414, 372, 414, 414, 190], 190) by decide +kernel) (by decide) (by decide) (by decide) (by decide)
  rw [if_neg c6]
  by_cases c7 : x = 24
  · subst c7; rw [if_pos rfl]; exact x_tsw (off := 283) (qm70 fv) (show ix_dc ixI70 6 = some (.tableswitch 414 5 48 #[248, 414, 414, 414, 414, 414, 414, 414, 414, 414, 414, 414, 414, 227, 227, 227, 320, 320, 248, 283, 414, 414, 414, 414, 346, 346, 414, 414, 414, 414, 414, 414, 414, 414, 414, 406, 414, 414, 414, 414, 372, 414, 414, 190], 190) by decide +kernel) (by decide) (by decide) (by decide) (by decide)
  rw [if_neg c7]
  by_cases c8 : x = 29
  · subst c8; rw [if_pos rfl]; exact x_tsw (off := 346) (qm70 fv) (show ix_dc ixI70 6 = some (.tableswitch 414 5 48 #[248, 414, 414, 414, 414, 414, 414, 414, 414, 414, 414, 414, 414, 227, 227, 227, 320, 320, 248, 283, 414, 414, 414, 414, 346, 346, 414, 414, 414, 414, 414, 414, 414, 414, 414, 406, 414, 414, 414, 414, 372, 414, 414, 190], 190) by decide +kernel) (by decide) (by decide) (by decide) (by decide)
  rw [if_neg c8]
  by_cases c9 : x = 30
  · subst c9; rw [if_pos rfl]; exact x_tsw (off := 346) (qm70 fv) (show ix_dc ixI70 6 = some (.tableswitch 414 5 48 #[248, 414, 414, 414, 414, 414, 414, 414, 414, 414, 414, 414, 414, 227, 227, 227, 320, 320, 248, 283, 414, 414, 414, 414, 346, 346, 414, 414, 414, 414, 414, 414, 414, 414, 414, 406, 414, 414, 414, 414, 372, 414, 414, 190], 190) by decide +kernel) (by decide) (by decide) (by decide) (by decide)
  rw [if_neg c9]
  by_cases c10 : x = 40
  · subst c10; rw [if_pos rfl]; exact x_tsw (off := 406) (qm70 fv) (show ix_dc ixI70 6 = some (.tableswitch 414 5 48 #[248, 414, 414, 414, 414, 414, 414, 414, 414, 414, 414, 414, 414, 227, 227, 227, 320, 320, 248, 283, 414, 414, 414, 414, 346, 346, 414, 414, 414, 414, 414, 414, 414, 414, 414, 406, 414, 414, 414, 414, 372, 414, 414, 190], 190) by decide +kernel) (by decide) (by decide) (by decide) (by decide)
  rw [if_neg c10]
  by_cases c11 : x = 45
  · subst c11; rw [if_pos rfl]; exact x_tsw (off := 372) (qm70 fv) (show ix_dc ixI70 6 = some (.tableswitch 414 5 48 #[248, 414, 414, 414, 414, 414, 414, 414, 414, 414, 414, 414, 414, 227, 227, 227, 320, 320, 248, 283, 414, 414, 414, 414, 346, 346, 414, 414, 414, 414, 414, 414, 414, 414, 414, 406, 414, 414, 414, 414, 372, 414, 414, 190], 190) by decide +kernel) (by decide) (by decide) (by decide) (by decide)
  rw [if_neg c11]
  by_cases c12 : x = 48
  · subst c12; rw [if_pos rfl]; exact x_tsw (off := 190) (qm70 fv) (show ix_dc ixI70 6 = some (.tableswitch 414 5 48 #[248, 414, 414, 414, 414, 414, 414, 414, 414, 414, 414, 414, 414, 227, 227, 227, 320, 320, 248, 283, 414, 414, 414, 414, 346, 346, 414, 414, 414, 414, 414, 414, 414, 414, 414, 406, 414, 414, 414, 414, 372, 414, 414, 190], 190) by decide +kernel) (by decide) (by decide) (by decide) (by decide)
  rw [if_neg c12]
  have e0 := tsw_ne c0 (k := 5) (by decide)
  have e1 := tsw_ne c1 (k := 18) (by decide)
  have e2 := tsw_ne c2 (k := 19) (by decide)
  have e3 := tsw_ne c3 (k := 20) (by decide)
  have e4 := tsw_ne c4 (k := 21) (by decide)
  have e5 := tsw_ne c5 (k := 22) (by decide)
  have e6 := tsw_ne c6 (k := 23) (by decide)
  have e7 := tsw_ne c7 (k := 24) (by decide)
  have e8 := tsw_ne c8 (k := 29) (by decide)
  have e9 := tsw_ne c9 (k := 30) (by decide)
  have e10 := tsw_ne c10 (k := 40) (by decide)
  have e11 := tsw_ne c11 (k := 45) (by decide)
  have e12 := tsw_ne c12 (k := 48) (by decide)
  by_cases hr : x.toInt < 5 ∨ 48 < x.toInt
  · exact x_tswD (qm70 fv) (show ix_dc ixI70 6 = some (.tableswitch 414 5 48 #[248, 414, 414, 414, 414, 414, 414, 414, 414, 414, 414, 414, 414, 227, 227, 227, 320, 320, 248, 283, 414, 414, 414, 414, 346, 346, 414, 414, 414, 414, 414, 414, 414, 414, 414, 406, 414, 414, 414, 414, 372, 414, 414, 190], 190) by decide +kernel) hr (by decide) (by decide)
  have key : ∀ j : Nat, j < 44 → ((#[248, 414, 414, 414, 414, 414, 414, 414, 414, 414, 414, 414, 414, 227, 227, 227, 320, 320, 248, 283, 414, 414, 414, 414, 346, 346, 414, 414, 414, 414, 414, 414, 414, 414, 414, 406, 414, 414, 414, 414, 372, 414, 414, 190] : Array Int)[j]? = some 414 ∨ (j = 0 ∨ j = 13 ∨ j = 14 ∨ j = 15 ∨ j = 16 ∨ j = 17 ∨ j = 18 ∨ j = 19 ∨ j = 24 ∨ j = 25 ∨ j = 35 ∨ j = 40 ∨ j = 43)) := by decide
  exact x_tsw (off := 414) (qm70 fv) (show ix_dc ixI70 6 = some (.tableswitch 414 5 48 #[248, 414, 414, 414, 414, 414, 414, 414, 414, 414, 414, 414, 414, 227, 227, 227, 320, 320, 248, 283, 414, 414, 414, 414, 346, 346, 414, 414, 414, 414, 414, 414, 414, 414, 414, 406, 414, 414, 414, 414, 372, 414, 414, 190], 190) by decide +kernel) hr ((key _ (by omega)).resolve_right (by omega)) (by decide) (by decide)
theorem q89_1 {fv : Value} {d : Nat} {st : List Value} {h : ix_H} {l0 : Option Value} {x : Int32} : xe (ixP fv) d 89 1 [l0] (.int x :: st) h = if x = 40 then xe (ixP fv) d 89 232 [l0] st h else if x = 41 then xe (ixP fv) d 89 232 [l0] st h else if x = 42 then xe (ixP fv) d 89 232 [l0] st h else if x = 43 then xe (ixP fv) d 89 232 [l0] st h else if x = 44 then xe (ixP fv) d 89 232 [l0] st h else if x = 45 then xe (ixP fv) d 89 232 [l0] st h else if x = 47 then xe (ixP fv) d 89 232 [l0] st h else if x = 59 then xe (ixP fv) d 89 232 [l0] st h else if x = 60 then xe (ixP fv) d 89 232 [l0] st h else if x = 61 then xe (ixP fv) d 89 232 [l0] st h else if x = 62 then xe (ixP fv) d 89 232 [l0] st h else if x = 91 then xe (ixP fv) d 89 232 [l0] st h else if x = 93 then xe (ixP fv) d 89 232 [l0] st h else xe (ixP fv) d 89 234 [l0] st h := by
  by_cases c0 : x = 40
  · subst c0; rw [if_pos rfl]; exact x_tsw (off := 231) (qm89 fv) (show ix_dc ixI89 1 = some (.tableswitch 233 40 93 #[231, 231, 231, 231, 231, 231, 233, 231, 233, 233, 233, 233, 233, 233, 233, 233, 233, 233, 233, 231, 231, 231, 231, 233, 233, 233, 233, 233, 233, 233, 233, 233, 233, 233, 233, 233, 233, 233, 233, 233, 233, 233, 233, 233, 233, 233, 233, 233, 233, 233, 233, 231, 233, 231], 231) by decide +kernel) (by decide) (by decide) (by decide) (by decide)
  rw [if_neg c0]
  by_cases c1 : x = 41
  · subst c1; rw [if_pos rfl]; exact x_tsw (off := 231) (qm89 fv) (show ix_dc ixI89 1 = some (.tableswitch 233 40 93 #[231, 231, 231, 231, 231, 231, 233, 231, 233, 233, 233, 233, 233, 233, 233, 233, 233, 233, 233, 231, 231, 231, 231, 233, 233, 233, 233, 233, 233, 233, 233, 233, 233, 233, 233, 233, 233, 233, 233, 233, 233, 233, 233, 233, 233, 233, 233, 233, 233, 233, 233, 231, 233, 231], 231) by decide +kernel) (by decide) (by decide) (by decide) (by decide)
  rw [if_neg c1]
  by_cases c2 : x = 42
  · subst c2; rw [if_pos rfl]; exact x_tsw (off := 231) (qm89 fv) (show ix_dc ixI89 1 = some (.tableswitch 233 40 93 #[231, 231, 231, 231, 231, 231, 233, 231, 233, 233, 233, 233, 233, 233, 233, 233, 233, 233, 233, 231, 231, 231, 231, 233, 233, 233, 233, 233, 233, 233, 233, 233, 233, 233, 233, 233, 233, 233, 233, 233, 233, 233, 233, 233, 233, 233, 233, 233, 233, 233, 233, 231, 233, 231], 231) by decide +kernel) (by decide) (by decide) (by decide) (by decide)
  rw [if_neg c2]
  by_cases c3 : x = 43
  · subst c3; rw [if_pos rfl]; exact x_tsw (off := 231) (qm89 fv) (show ix_dc ixI89 1 = some (.tableswitch 233 40 93 #[231, 231, 231, 231, 231, 231, 233, 231, 233, 233, 233, 233, 233, 233, 233, 233, 233, 233, 233, 231, 231, 231, 231, 233, 233, 233, 233, 233, 233, 233, 233, 233, 233, 233, 233, 233, 233, 233, 233, 233, 233, 233, 233, 233, 233, 233, 233, 233, 233, 233, 233, 231, 233, 231], 231) by decide +kernel) (by decide) (by decide) (by decide) (by decide)
  rw [if_neg c3]
  by_cases c4 : x = 44
  · subst c4; rw [if_pos rfl]; exact x_tsw (off := 231) (qm89 fv) (show ix_dc ixI89 1 = some (.tableswitch 233 40 93 #[231, 231, 231, 231, 231, 231, 233, 231, 233, 233, 233, 233, 233, 233, 233, 233, 233, 233, 233, 231, 231, 231, 231, 233, 233, 233, 233, 233, 233, 233, 233, 233, 233, 233, 233, 233, 233, 233, 233, 233, 233, 233, 233, 233, 233, 233, 233, 233, 233, 233, 233, 231, 233, 231], 231) by decide +kernel) (by decide) (by decide) (by decide) (by decide)
  rw [if_neg c4]
  by_cases c5 : x = 45
  · subst c5; rw [if_pos rfl]; exact x_tsw (off := 231) (qm89 fv) (show ix_dc ixI89 1 = some (.tableswitch 233 40 93 #[231, 231, 231, 231, 231, 231, 233, 231, 233, 233, 233, 233, 233, 233, 233, 233, 233, 233, 233, 231, 231, 231, 231, 233, 233, 233, 233, 233, 233, 233, 233, 233, 233, 233, 233, 233, 233, 233, 233, 233, 233, 233, 233, 233, 233, 233, 233, 233, 233, 233, 233, 231, 233, 231], 231) by decide +kernel) (by decide) (by decide) (by decide) (by decide)
  rw [if_neg c5]
  by_cases c6 : x = 47
  · subst c6; rw [if_pos rfl]; exact x_tsw (off := 231) (qm89 fv) (show ix_dc ixI89 1 = some (.tableswitch 233 40 93 #[231, 231, 231, 231, 231, 231, 233, 231, 233, 233, 233, 233, 233, 233, 233, 233, 233, 233, 233, 231, 231, 231, 231, 233, 233, 233, 233, 233, 233, 233, 233, 233, 233, 233, 233, 233, 233, 233, 233, 233, 233, 233, 233, 233, 233, 233, 233, 233, 233, 233, 233, 231, 233, 231], 231) by decide +kernel) (by decide) (by decide) (by decide) (by decide)
  rw [if_neg c6]
  by_cases c7 : x = 59
  · subst c7; rw [if_pos rfl]; exact x_tsw (off := 231) (qm89 fv) (show ix_dc ixI89 1 = some (.tableswitch 233 40 93 #[231, 231, 231, 231, 231, 231, 233, 231, 233, 233, 233, 233, 233, 233, 233, 233, 233, 233, 233, 231, 231, 231, 231, 233, 233, 233, 233, 233, 233, 233, 233, 233, 233, 233, 233, 233, 233, 233, 233, 233, 233, 233, 233, 233, 233, 233, 233, 233, 233, 233, 233, 231, 233, 231], 231) by decide +kernel) (by decide) (by decide) (by decide) (by decide)
  rw [if_neg c7]
  by_cases c8 : x = 60
  · subst c8; rw [if_pos rfl]; exact x_tsw (off := 231) (qm89 fv) (show ix_dc ixI89 1 = some (.tableswitch 233 40 93 #[231, 231, 231, 231, 231, 231, 233, 231, 233, 233, 233, 233, 233, 233, 233, 233, 233, 233, 233, 231, 231, 231, 231, 233, 233, 233, 233, 233, 233, 233, 233, 233, 233, 233, 233, 233, 233, 233, 233, 233, 233, 233, 233, 233, 233, 233, 233, 233, 233, 233, 233, 231, 233, 231], 231) by decide +kernel) (by decide) (by decide) (by decide) (by decide)
  rw [if_neg c8]
  by_cases c9 : x = 61
  · subst c9; rw [if_pos rfl]; exact x_tsw (off := 231) (qm89 fv) (show ix_dc ixI89 1 = some (.tableswitch 233 40 93 #[231, 231, 231, 231, 231, 231, 233, 231, 233, 233, 233, 233, 233, 233, 233, 233, 233, 233, 233, 231, 231, 231, 231, 233, 233, 233, 233, 233, 233, 233, 233, 233, 233, 233, 233, 233, 233, 233, 233, 233, 233, 233, 233, 233, 233, 233, 233, 233, 233, 233, 233, 231, 233, 231], 231) by decide +kernel) (by decide) (by decide) (by decide) (by decide)
  rw [if_neg c9]
  by_cases c10 : x = 62
  · subst c10; rw [if_pos rfl]; exact x_tsw (off := 231) (qm89 fv) (show ix_dc ixI89 1 = some (.tableswitch 233 40 93 #[231, 231, 231, 231, 231, 231, 233, 231, 233, 233, 233, 233, 233, 233, 233, 233, 233, 233, 233, 231, 231, 231, 231, 233, 233, 233, 233, 233, 233, 233, 233, 233, 233, 233, 233, 233, 233, 233, 233, 233, 233, 233, 233, 233, 233, 233, 233, 233, 233, 233, 233, 231, 233, 231], 231) by decide +kernel) (by decide) (by decide) (by decide) (by decide)
  rw [if_neg c10]
  by_cases c11 : x = 91
  · subst c11; rw [if_pos rfl]; exact x_tsw (off := 231) (qm89 fv) (show ix_dc ixI89 1 = some (.tableswitch 233 40 93 #[231, 231, 231, 231, 231, 231, 233, 231, 233, 233, 233, 233, 233, 233, 233, 233, 233, 233, 233, 231, 231, 231, 231, 233, 233, 233, 233, 233, 233, 233, 233, 233, 233, 233, 233, 233, 233, 233, 233, 233, 233, 233, 233, 233, 233, 233, 233, 233, 233, 233, 233, 231, 233, 231], 231) by decide +kernel) (by decide) (by decide) (by decide) (by decide)
  rw [if_neg c11]
  by_cases c12 : x = 93
  · subst c12; rw [if_pos rfl]; exact x_tsw (off := 231) (qm89 fv) (show ix_dc ixI89 1 = some (.tableswitch 233 40 93 #[231, 231, 231, 231, 231, 231, 233, 231, 233, 233, 233, 233, 233, 233, 233, 233, 233, 233, 233, 231, 231, 231, 231, 233, 233, 233, 233, 233, 233, 233, 233, 233, 233, 233, 233, 233, 233, 233, 233, 233, 233, 233, 233, 233, 233, 233, 233, 233, 233, 233, 233, 231, 233, 231], 231) by decide +kernel) (by decide) (by decide) (by decide) (by decide)
  rw [if_neg c12]
  have e0 := tsw_ne c0 (k := 40) (by decide)
  have e1 := tsw_ne c1 (k := 41) (by decide)
  have e2 := tsw_ne c2 (k := 42) (by decide)
  have e3 := tsw_ne c3 (k := 43) (by decide)
  have e4 := tsw_ne c4 (k := 44) (by decide)
  have e5 := tsw_ne c5 (k := 45) (by decide)
  have e6 := tsw_ne c6 (k := 47) (by decide)
  have e7 := tsw_ne c7 (k := 59) (by decide)
  have e8 := tsw_ne c8 (k := 60) (by decide)
  have e9 := tsw_ne c9 (k := 61) (by decide)
  have e10 := tsw_ne c10 (k := 62) (by decide)
  have e11 := tsw_ne c11 (k := 91) (by decide)
  have e12 := tsw_ne c12 (k := 93) (by decide)
  by_cases hr : x.toInt < 40 ∨ 93 < x.toInt
  · exact x_tswD (qm89 fv) (show ix_dc ixI89 1 = some (.tableswitch 233 40 93 #[231, 231, 231, 231, 231, 231, 233, 231, 233, 233, 233, 233, 233, 233, 233, 233, 233, 233, 233, 231, 231, 231, 231, 233, 233, 233, 233, 233, 233, 233, 233, 233, 233, 233, 233, 233, 233, 233, 233, 233, 233, 233, 233, 233, 233, 233, 233, 233, 233, 233, 233, 231, 233, 231], 231) by decide +kernel) hr (by decide) (by decide)
  have key : ∀ j : Nat, j < 54 → ((#[231, 231, 231, 231, 231, 231, 233, 231, 233, 233, 233, 233, 233, 233, 233, 233, 233, 233, 233, 231, 231, 231, 231, 233, 233, 233, 233, 233, 233, 233, 233, 233, 233, 233, 233, 233, 233, 233, 233, 233, 233, 233, 233, 233, 233, 233, 233, 233, 233, 233, 233, 231, 233, 231] : Array Int)[j]? = some 233 ∨ (j = 0 ∨ j = 1 ∨ j = 2 ∨ j = 3 ∨ j = 4 ∨ j = 5 ∨ j = 7 ∨ j = 19 ∨ j = 20 ∨ j = 21 ∨ j = 22 ∨ j = 51 ∨ j = 53)) := by decide
  exact x_tsw (off := 233) (qm89 fv) (show ix_dc ixI89 1 = some (.tableswitch 233 40 93 #[231, 231, 231, 231, 231, 231, 233, 231, 233, 233, 233, 233, 233, 233, 233, 233, 233, 233, 233, 231, 231, 231, 231, 233, 233, 233, 233, 233, 233, 233, 233, 233, 233, 233, 233, 233, 233, 233, 233, 233, 233, 233, 233, 233, 233, 233, 233, 233, 233, 233, 233, 231, 233, 231], 231) by decide +kernel) hr ((key _ (by omega)).resolve_right (by omega)) (by decide) (by decide)
theorem q94_9 {fv : Value} {d : Nat} {st : List Value} {h : ix_H} {l0 l1 l2 : Option Value} {x : Int32} : xe (ixP fv) d 94 9 [l0, l1, l2] (.int x :: st) h = if x = 0 then xe (ixP fv) d 94 80 [l0, l1, l2] st h else if x = 1 then xe (ixP fv) d 94 88 [l0, l1, l2] st h else if x = 2 then xe (ixP fv) d 94 96 [l0, l1, l2] st h else if x = 3 then xe (ixP fv) d 94 101 [l0, l1, l2] st h else if x = 4 then xe (ixP fv) d 94 106 [l0, l1, l2] st h else if x = 5 then xe (ixP fv) d 94 111 [l0, l1, l2] st h else if x = 6 then xe (ixP fv) d 94 116 [l0, l1, l2] st h else if x = 7 then xe (ixP fv) d 94 121 [l0, l1, l2] st h else if x = 8 then xe (ixP fv) d 94 129 [l0, l1, l2] st h else if x = 9 then xe (ixP fv) d 94 142 [l0, l1, l2] st h else if x = 10 then xe (ixP fv) d 94 150 [l0, l1, l2] st h else if x = 11 then xe (ixP fv) d 94 163 [l0, l1, l2] st h else if x = 12 then xe (ixP fv) d 94 171 [l0, l1, l2] st h else if x = 13 then xe (ixP fv) d 94 179 [l0, l1, l2] st h else xe (ixP fv) d 94 187 [l0, l1, l2] st h := by
  by_cases c0 : x = 0
  · subst c0; rw [if_pos rfl]; exact x_tsw (off := 71) (qm94 fv) (show ix_dc ixI94 9 = some (.tableswitch 178 0 13 #[71, 79, 87, 92, 97, 102, 107, 112, 120, 133, 141, 154, 162, 170], 71) by decide +kernel) (by decide) (by decide) (by decide) (by decide)
  rw [if_neg c0]
  by_cases c1 : x = 1
  · subst c1; rw [if_pos rfl]; exact x_tsw (off := 79) (qm94 fv) (show ix_dc ixI94 9 = some (.tableswitch 178 0 13 #[71, 79, 87, 92, 97, 102, 107, 112, 120, 133, 141, 154, 162, 170], 71) by decide +kernel) (by decide) (by decide) (by decide) (by decide)
  rw [if_neg c1]
  by_cases c2 : x = 2
  · subst c2; rw [if_pos rfl]; exact x_tsw (off := 87) (qm94 fv) (show ix_dc ixI94 9 = some (.tableswitch 178 0 13 #[71, 79, 87, 92, 97, 102, 107, 112, 120, 133, 141, 154, 162, 170], 71) by decide +kernel) (by decide) (by decide) (by decide) (by decide)
  rw [if_neg c2]
  by_cases c3 : x = 3
  · subst c3; rw [if_pos rfl]; exact x_tsw (off := 92) (qm94 fv) (show ix_dc ixI94 9 = some (.tableswitch 178 0 13 #[71, 79, 87, 92, 97, 102, 107, 112, 120, 133, 141, 154, 162, 170], 71) by decide +kernel) (by decide) (by decide) (by decide) (by decide)
  rw [if_neg c3]
  by_cases c4 : x = 4
  · subst c4; rw [if_pos rfl]; exact x_tsw (off := 97) (qm94 fv) (show ix_dc ixI94 9 = some (.tableswitch 178 0 13 #[71, 79, 87, 92, 97, 102, 107, 112, 120, 133, 141, 154, 162, 170], 71) by decide +kernel) (by decide) (by decide) (by decide) (by decide)
  rw [if_neg c4]
  by_cases c5 : x = 5
  · subst c5; rw [if_pos rfl]; exact x_tsw (off := 102) (qm94 fv) (show ix_dc ixI94 9 = some (.tableswitch 178 0 13 #[71, 79, 87, 92, 97, 102, 107, 112, 120, 133, 141, 154, 162, 170], 71) by decide +kernel) (by decide) (by decide) (by decide) (by decide)
  rw [if_neg c5]
  by_cases c6 : x = 6
  · subst c6; rw [if_pos rfl]; exact x_tsw (off := 107) (qm94 fv) (show ix_dc ixI94 9 = some (.tableswitch 178 0 13 #[71, 79, 87, 92, 97, 102, 107, 112, 120, 133, 141, 154, 162, 170], 71) by decide +kernel) (by decide) (by decide) (by decide) (by decide)
  rw [if_neg c6]
  by_cases c7 : x = 7
  · subst c7; rw [if_pos rfl]; exact x_tsw (off := 112) (qm94 fv) (show ix_dc ixI94 9 = some (.tableswitch 178 0 13 #[71, 79, 87, 92, 97, 102, 107, 112, 120, 133, 141, 154, 162, 170], 71) by decide +kernel) (by decide) (by decide) (by decide) (by decide)
  rw [if_neg c7]
  by_cases c8 : x = 8
  · subst c8; rw [if_pos rfl]; exact x_tsw (off := 120) (qm94 fv) (show ix_dc ixI94 9 = some (.tableswitch 178 0 13 #[71, 79, 87, 92, 97, 102, 107, 112, 120, 133, 141, 154, 162, 170], 71) by decide +kernel) (by decide) (by decide) (by decide) (by decide)
  rw [if_neg c8]
  by_cases c9 : x = 9
  · subst c9; rw [if_pos rfl]; exact x_tsw (off := 133) (qm94 fv) (show ix_dc ixI94 9 = some (.tableswitch 178 0 13 #[71, 79, 87, 92, 97, 102, 107, 112, 120, 133, 141, 154, 162, 170], 71) by decide +kernel) (by decide) (by decide) (by decide) (by decide)
  rw [if_neg c9]
  by_cases c10 : x = 10
  · subst c10; rw [if_pos rfl]; exact x_tsw (off := 141) (qm94 fv) (show ix_dc ixI94 9 = some (.tableswitch 178 0 13 #[71, 79, 87, 92, 97, 102, 107, 112, 120, 133, 141, 154, 162, 170], 71) by decide +kernel) (by decide) (by decide) (by decide) (by decide)
  rw [if_neg c10]
  by_cases c11 : x = 11
  · subst c11; rw [if_pos rfl]; exact x_tsw (off := 154) (qm94 fv) (show ix_dc ixI94 9 = some (.tableswitch 178 0 13 #[71, 79, 87, 92, 97, 102, 107, 112, 120, 133, 141, 154, 162, 170], 71) by decide +kernel) (by decide) (by decide) (by decide) (by decide)
  rw [if_neg c11]
  by_cases c12 : x = 12
  · subst c12; rw [if_pos rfl]; exact x_tsw (off := 162) (qm94 fv) (show ix_dc ixI94 9 = some (.tableswitch 178 0 13 #[71, 79, 87, 92, 97, 102, 107, 112, 120, 133, 141, 154, 162, 170], 71) by decide +kernel) (by decide) (by decide) (by decide) (by decide)
  rw [if_neg c12]
  by_cases c13 : x = 13
  · subst c13; rw [if_pos rfl]; exact x_tsw (off := 170) (qm94 fv) (show ix_dc ixI94 9 = some (.tableswitch 178 0 13 #[71, 79, 87, 92, 97, 102, 107, 112, 120, 133, 141, 154, 162, 170], 71) by decide +kernel) (by decide) (by decide) (by decide) (by decide)
  rw [if_neg c13]
  have e0 := tsw_ne c0 (k := 0) (by decide)
  have e1 := tsw_ne c1 (k := 1) (by decide)
  have e2 := tsw_ne c2 (k := 2) (by decide)
  have e3 := tsw_ne c3 (k := 3) (by decide)
  have e4 := tsw_ne c4 (k := 4) (by decide)
  have e5 := tsw_ne c5 (k := 5) (by decide)
  have e6 := tsw_ne c6 (k := 6) (by decide)
  have e7 := tsw_ne c7 (k := 7) (by decide)
  have e8 := tsw_ne c8 (k := 8) (by decide)
  have e9 := tsw_ne c9 (k := 9) (by decide)
  have e10 := tsw_ne c10 (k := 10) (by decide)
  have e11 := tsw_ne c11 (k := 11) (by decide)
  have e12 := tsw_ne c12 (k := 12) (by decide)
  have e13 := tsw_ne c13 (k := 13) (by decide)
  exact x_tswD (qm94 fv) (show ix_dc ixI94 9 = some (.tableswitch 178 0 13 #[71, 79, 87, 92, 97, 102, 107, 112, 120, 133, 141, 154, 162, 170], 71) by decide +kernel) (by omega) (by decide) (by decide)
theorem q95_37 {fv : Value} {d : Nat} {st : List Value} {h : ix_H} {l0 l1 l2 : Option Value} {x : Int32} : xe (ixP fv) d 95 37 [l0, l1, l2] (.int x :: st) h = if x = 0 then xe (ixP fv) d 95 76 [l0, l1, l2] st h else if x = 1 then xe (ixP fv) d 95 91 [l0, l1, l2] st h else if x = 2 then xe (ixP fv) d 95 103 [l0, l1, l2] st h else if x = 3 then xe (ixP fv) d 95 115 [l0, l1, l2] st h else if x = 4 then xe (ixP fv) d 95 132 [l0, l1, l2] st h else if x = 5 then xe (ixP fv) d 95 144 [l0, l1, l2] st h else xe (ixP fv) d 95 153 [l0, l1, l2] st h := by
  by_cases c0 : x = 0
  · subst c0; rw [if_pos rfl]; exact x_tsw (off := 39) (qm95 fv) (show ix_dc ixI95 37 = some (.tableswitch 116 0 5 #[39, 54, 66, 78, 95, 107], 39) by decide +kernel) (by decide) (by decide) (by decide) (by decide)
  rw [if_neg c0]
  by_cases c1 : x = 1
  · subst c1; rw [if_pos rfl]; exact x_tsw (off := 54) (qm95 fv) (show ix_dc ixI95 37 = some (.tableswitch 116 0 5 #[39, 54, 66, 78, 95, 107], 39) by decide +kernel) (by decide) (by decide) (by decide) (by decide)
  rw [if_neg c1]
  by_cases c2 : x = 2
  · subst c2; rw [if_pos rfl]; exact x_tsw (off := 66) (qm95 fv) (show ix_dc ixI95 37 = some (.tableswitch 116 0 5 #[39, 54, 66, 78, 95, 107], 39) by decide +kernel) (by decide) (by decide) (by decide) (by decide)
  rw [if_neg c2]
  by_cases c3 : x = 3
  · subst c3; rw [if_pos rfl]; exact x_tsw (off := 78) (qm95 fv) (show ix_dc ixI95 37 = some (.tableswitch 116 0 5 #[39, 54, 66, 78, 95, 107], 39) by decide +kernel) (by decide) (by decide) (by decide) (by decide)
  rw [if_neg c3]
  by_cases c4 : x = 4
  · subst c4; rw [if_pos rfl]; exact x_tsw (off := 95) (qm95 fv) (show ix_dc ixI95 37 = some (.tableswitch 116 0 5 #[39, 54, 66, 78, 95, 107], 39) by decide +kernel) (by decide) (by decide) (by decide) (by decide)
  rw [if_neg c4]
  by_cases c5 : x = 5
  · subst c5; rw [if_pos rfl]; exact x_tsw (off := 107) (qm95 fv) (show ix_dc ixI95 37 = some (.tableswitch 116 0 5 #[39, 54, 66, 78, 95, 107], 39) by decide +kernel) (by decide) (by decide) (by decide) (by decide)
  rw [if_neg c5]
  have e0 := tsw_ne c0 (k := 0) (by decide)
  have e1 := tsw_ne c1 (k := 1) (by decide)
  have e2 := tsw_ne c2 (k := 2) (by decide)
  have e3 := tsw_ne c3 (k := 3) (by decide)
  have e4 := tsw_ne c4 (k := 4) (by decide)
  have e5 := tsw_ne c5 (k := 5) (by decide)
  exact x_tswD (qm95 fv) (show ix_dc ixI95 37 = some (.tableswitch 116 0 5 #[39, 54, 66, 78, 95, 107], 39) by decide +kernel) (by omega) (by decide) (by decide)
theorem q96_36 {fv : Value} {d : Nat} {st : List Value} {h : ix_H} {l0 l1 l2 : Option Value} {x : Int32} : xe (ixP fv) d 96 36 [l0, l1, l2] (.int x :: st) h = if x = 0 then xe (ixP fv) d 96 68 [l0, l1, l2] st h else if x = 1 then xe (ixP fv) d 96 83 [l0, l1, l2] st h else if x = 2 then xe (ixP fv) d 96 98 [l0, l1, l2] st h else if x = 3 then xe (ixP fv) d 96 113 [l0, l1, l2] st h else xe (ixP fv) d 96 122 [l0, l1, l2] st h := by
  by_cases c0 : x = 0
  · subst c0; rw [if_pos rfl]; exact x_tsw (off := 32) (qm96 fv) (show ix_dc ixI96 36 = some (.tableswitch 86 0 3 #[32, 47, 62, 77], 32) by decide +kernel) (by decide) (by decide) (by decide) (by decide)
  rw [if_neg c0]
  by_cases c1 : x = 1
  · subst c1; rw [if_pos rfl]; exact x_tsw (off := 47) (qm96 fv) (show ix_dc ixI96 36 = some (.tableswitch 86 0 3 #[32, 47, 62, 77], 32) by decide +kernel) (by decide) (by decide) (by decide) (by decide)
  rw [if_neg c1]
  by_cases c2 : x = 2
  · subst c2; rw [if_pos rfl]; exact x_tsw (off := 62) (qm96 fv) (show ix_dc ixI96 36 = some (.tableswitch 86 0 3 #[32, 47, 62, 77], 32) by decide +kernel) (by decide) (by decide) (by decide) (by decide)
  rw [if_neg c2]
  by_cases c3 : x = 3
  · subst c3; rw [if_pos rfl]; exact x_tsw (off := 77) (qm96 fv) (show ix_dc ixI96 36 = some (.tableswitch 86 0 3 #[32, 47, 62, 77], 32) by decide +kernel) (by decide) (by decide) (by decide) (by decide)
  rw [if_neg c3]
  have e0 := tsw_ne c0 (k := 0) (by decide)
  have e1 := tsw_ne c1 (k := 1) (by decide)
  have e2 := tsw_ne c2 (k := 2) (by decide)
  have e3 := tsw_ne c3 (k := 3) (by decide)
  exact x_tswD (qm96 fv) (show ix_dc ixI96 36 = some (.tableswitch 86 0 3 #[32, 47, 62, 77], 32) by decide +kernel) (by omega) (by decide) (by decide)
theorem q97_37 {fv : Value} {d : Nat} {st : List Value} {h : ix_H} {l0 l1 l2 : Option Value} {x : Int32} : xe (ixP fv) d 97 37 [l0, l1, l2] (.int x :: st) h = if x = 0 then xe (ixP fv) d 97 72 [l0, l1, l2] st h else if x = 1 then xe (ixP fv) d 97 84 [l0, l1, l2] st h else if x = 2 then xe (ixP fv) d 97 99 [l0, l1, l2] st h else if x = 3 then xe (ixP fv) d 97 114 [l0, l1, l2] st h else if x = 4 then xe (ixP fv) d 97 126 [l0, l1, l2] st h else xe (ixP fv) d 97 135 [l0, l1, l2] st h := by
  by_cases c0 : x = 0
  · subst c0; rw [if_pos rfl]; exact x_tsw (off := 35) (qm97 fv) (show ix_dc ixI97 37 = some (.tableswitch 98 0 4 #[35, 47, 62, 77, 89], 35) by decide +kernel) (by decide) (by decide) (by decide) (by decide)
  rw [if_neg c0]
  by_cases c1 : x = 1
  · subst c1; rw [if_pos rfl]; exact x_tsw (off := 47) (qm97 fv) (show ix_dc ixI97 37 = some (.tableswitch 98 0 4 #[35, 47, 62, 77, 89], 35) by decide +kernel) (by decide) (by decide) (by decide) (by decide)
  rw [if_neg c1]
  by_cases c2 : x = 2
  · subst c2; rw [if_pos rfl]; exact x_tsw (off := 62) (qm97 fv) (show ix_dc ixI97 37 = some (.tableswitch 98 0 4 #[35, 47, 62, 77, 89], 35) by decide +kernel) (by decide) (by decide) (by decide) (by decide)
  rw [if_neg c2]
  by_cases c3 : x = 3
  · subst c3; rw [if_pos rfl]; exact x_tsw (off := 77) (qm97 fv) (show ix_dc ixI97 37 = some (.tableswitch 98 0 4 #[35, 47, 62, 77, 89], 35) by decide +kernel) (by decide) (by decide) (by decide) (by decide)
  rw [if_neg c3]
  by_cases c4 : x = 4
  · subst c4; rw [if_pos rfl]; exact x_tsw (off := 89) (qm97 fv) (show ix_dc ixI97 37 = some (.tableswitch 98 0 4 #[35, 47, 62, 77, 89], 35) by decide +kernel) (by decide) (by decide) (by decide) (by decide)
  rw [if_neg c4]
  have e0 := tsw_ne c0 (k := 0) (by decide)
  have e1 := tsw_ne c1 (k := 1) (by decide)
  have e2 := tsw_ne c2 (k := 2) (by decide)
  have e3 := tsw_ne c3 (k := 3) (by decide)
  have e4 := tsw_ne c4 (k := 4) (by decide)
  exact x_tswD (qm97 fv) (show ix_dc ixI97 37 = some (.tableswitch 98 0 4 #[35, 47, 62, 77, 89], 35) by decide +kernel) (by omega) (by decide) (by decide)
theorem q98_36 {fv : Value} {d : Nat} {st : List Value} {h : ix_H} {l0 l1 l2 : Option Value} {x : Int32} : xe (ixP fv) d 98 36 [l0, l1, l2] (.int x :: st) h = if x = 0 then xe (ixP fv) d 98 64 [l0, l1, l2] st h else if x = 1 then xe (ixP fv) d 98 76 [l0, l1, l2] st h else if x = 2 then xe (ixP fv) d 98 91 [l0, l1, l2] st h else xe (ixP fv) d 98 106 [l0, l1, l2] st h := by
  by_cases c0 : x = 0
  · subst c0; rw [if_pos rfl]; exact x_tsw (off := 28) (qm98 fv) (show ix_dc ixI98 36 = some (.tableswitch 70 0 2 #[28, 40, 55], 28) by decide +kernel) (by decide) (by decide) (by decide) (by decide)
  rw [if_neg c0]
  by_cases c1 : x = 1
  · subst c1; rw [if_pos rfl]; exact x_tsw (off := 40) (qm98 fv) (show ix_dc ixI98 36 = some (.tableswitch 70 0 2 #[28, 40, 55], 28) by decide +kernel) (by decide) (by decide) (by decide) (by decide)
  rw [if_neg c1]
  by_cases c2 : x = 2
  · subst c2; rw [if_pos rfl]; exact x_tsw (off := 55) (qm98 fv) (show ix_dc ixI98 36 = some (.tableswitch 70 0 2 #[28, 40, 55], 28) by decide +kernel) (by decide) (by decide) (by decide) (by decide)
  rw [if_neg c2]
  have e0 := tsw_ne c0 (k := 0) (by decide)
  have e1 := tsw_ne c1 (k := 1) (by decide)
  have e2 := tsw_ne c2 (k := 2) (by decide)
  exact x_tswD (qm98 fv) (show ix_dc ixI98 36 = some (.tableswitch 70 0 2 #[28, 40, 55], 28) by decide +kernel) (by omega) (by decide) (by decide)
theorem q106_58 {fv : Value} {d : Nat} {st : List Value} {h : ix_H} {l0 l1 l2 l3 : Option Value} {x : Int32} : xe (ixP fv) d 106 58 [l0, l1, l2, l3] (.int x :: st) h = if x = 0 then xe (ixP fv) d 106 84 [l0, l1, l2, l3] st h else if x = 1 then xe (ixP fv) d 106 86 [l0, l1, l2, l3] st h else if x = 2 then xe (ixP fv) d 106 105 [l0, l1, l2, l3] st h else xe (ixP fv) d 106 113 [l0, l1, l2, l3] st h := by
  by_cases c0 : x = 0
  · subst c0; rw [if_pos rfl]; exact x_tsw (off := 26) (qm106 fv) (show ix_dc ixI106 58 = some (.tableswitch 55 0 2 #[26, 28, 47], 26) by decide +kernel) (by decide) (by decide) (by decide) (by decide)
  rw [if_neg c0]
  by_cases c1 : x = 1
  · subst c1; rw [if_pos rfl]; exact x_tsw (off := 28) (qm106 fv) (show ix_dc ixI106 58 = some (.tableswitch 55 0 2 #[26, 28, 47], 26) by decide +kernel) (by decide) (by decide) (by decide) (by decide)
  rw [if_neg c1]
  by_cases c2 : x = 2
  · subst c2; rw [if_pos rfl]; exact x_tsw (off := 47) (qm106 fv) (show ix_dc ixI106 58 = some (.tableswitch 55 0 2 #[26, 28, 47], 26) by decide +kernel) (by decide) (by decide) (by decide) (by decide)
  rw [if_neg c2]
  have e0 := tsw_ne c0 (k := 0) (by decide)
  have e1 := tsw_ne c1 (k := 1) (by decide)
  have e2 := tsw_ne c2 (k := 2) (by decide)
  exact x_tswD (qm106 fv) (show ix_dc ixI106 58 = some (.tableswitch 55 0 2 #[26, 28, 47], 26) by decide +kernel) (by omega) (by decide) (by decide)
theorem q126_7 {fv : Value} {d : Nat} {st : List Value} {h : ix_H} {l0 l1 l2 : Option Value} {x : Int32} : xe (ixP fv) d 126 7 [l0, l1, l2] (.int x :: st) h = if x = 0 then xe (ixP fv) d 126 40 [l0, l1, l2] st h else if x = 1 then xe (ixP fv) d 126 45 [l0, l1, l2] st h else if x = 2 then xe (ixP fv) d 126 64 [l0, l1, l2] st h else if x = 3 then xe (ixP fv) d 126 80 [l0, l1, l2] st h else if x = 4 then xe (ixP fv) d 126 100 [l0, l1, l2] st h else xe (ixP fv) d 126 113 [l0, l1, l2] st h := by
  by_cases c0 : x = 0
  · subst c0; rw [if_pos rfl]; exact x_tsw (off := 33) (qm126 fv) (show ix_dc ixI126 7 = some (.tableswitch 106 0 4 #[33, 38, 57, 73, 93], 33) by decide +kernel) (by decide) (by decide) (by decide) (by decide)
  rw [if_neg c0]
  by_cases c1 : x = 1
  · subst c1; rw [if_pos rfl]; exact x_tsw (off := 38) (qm126 fv) (show ix_dc ixI126 7 = some (.tableswitch 106 0 4 #[33, 38, 57, 73, 93], 33) by decide +kernel) (by decide) (by decide) (by decide) (by decide)
  rw [if_neg c1]
  by_cases c2 : x = 2
  · subst c2; rw [if_pos rfl]; exact x_tsw (off := 57) (qm126 fv) (show ix_dc ixI126 7 = some (.tableswitch 106 0 4 #[33, 38, 57, 73, 93], 33) by decide +kernel) (by decide) (by decide) (by decide) (by decide)
  rw [if_neg c2]
  by_cases c3 : x = 3
  · subst c3; rw [if_pos rfl]; exact x_tsw (off := 73) (qm126 fv) (show ix_dc ixI126 7 = some (.tableswitch 106 0 4 #[33, 38, 57, 73, 93], 33) by decide +kernel) (by decide) (by decide) (by decide) (by decide)
  rw [if_neg c3]
  by_cases c4 : x = 4
  · subst c4; rw [if_pos rfl]; exact x_tsw (off := 93) (qm126 fv) (show ix_dc ixI126 7 = some (.tableswitch 106 0 4 #[33, 38, 57, 73, 93], 33) by decide +kernel) (by decide) (by decide) (by decide) (by decide)
  rw [if_neg c4]
  have e0 := tsw_ne c0 (k := 0) (by decide)
  have e1 := tsw_ne c1 (k := 1) (by decide)
  have e2 := tsw_ne c2 (k := 2) (by decide)
  have e3 := tsw_ne c3 (k := 3) (by decide)
  have e4 := tsw_ne c4 (k := 4) (by decide)
  exact x_tswD (qm126 fv) (show ix_dc ixI126 7 = some (.tableswitch 106 0 4 #[33, 38, 57, 73, 93], 33) by decide +kernel) (by omega) (by decide) (by decide)
theorem q127_17 {fv : Value} {d : Nat} {st : List Value} {h : ix_H} {l0 l1 l2 l3 : Option Value} {x : Int32} : xe (ixP fv) d 127 17 [l0, l1, l2, l3] (.int x :: st) h = if x = (-1) then xe (ixP fv) d 127 64 [l0, l1, l2, l3] st h else if x = 0 then xe (ixP fv) d 127 66 [l0, l1, l2, l3] st h else if x = 1 then xe (ixP fv) d 127 82 [l0, l1, l2, l3] st h else if x = 2 then xe (ixP fv) d 127 91 [l0, l1, l2, l3] st h else if x = 3 then xe (ixP fv) d 127 122 [l0, l1, l2, l3] st h else if x = 4 then xe (ixP fv) d 127 141 [l0, l1, l2, l3] st h else if x = 5 then xe (ixP fv) d 127 163 [l0, l1, l2, l3] st h else if x = 6 then xe (ixP fv) d 127 196 [l0, l1, l2, l3] st h else xe (ixP fv) d 127 229 [l0, l1, l2, l3] st h := by
  by_cases c0 : x = (-1)
  · subst c0; rw [if_pos rfl]; exact x_tsw (off := 47) (qm127 fv) (show ix_dc ixI127 17 = some (.tableswitch 212 (-1) 6 #[47, 49, 65, 74, 105, 124, 146, 179], 47) by decide +kernel) (by decide) (by decide) (by decide) (by decide)
  rw [if_neg c0]
  by_cases c1 : x = 0
  · subst c1; rw [if_pos rfl]; exact x_tsw (off := 49) (qm127 fv) (show ix_dc ixI127 17 = some (.tableswitch 212 (-1) 6 #[47, 49, 65, 74, 105, 124, 146, 179], 47) by decide +kernel) (by decide) (by decide) (by decide) (by decide)
  rw [if_neg c1]
  by_cases c2 : x = 1
  · subst c2; rw [if_pos rfl]; exact x_tsw (off := 65) (qm127 fv) (show ix_dc ixI127 17 = some (.tableswitch 212 (-1) 6 #[47, 49, 65, 74, 105, 124, 146, 179], 47) by decide +kernel) (by decide) (by decide) (by decide) (by decide)
  rw [if_neg c2]
  by_cases c3 : x = 2
  · subst c3; rw [if_pos rfl]; exact x_tsw (off := 74) (qm127 fv) (show ix_dc ixI127 17 = some (.tableswitch 212 (-1) 6 #[47, 49, 65, 74, 105, 124, 146, 179], 47) by decide +kernel) (by decide) (by decide) (by decide) (by decide)
  rw [if_neg c3]
  by_cases c4 : x = 3
  · subst c4; rw [if_pos rfl]; exact x_tsw (off := 105) (qm127 fv) (show ix_dc ixI127 17 = some (.tableswitch 212 (-1) 6 #[47, 49, 65, 74, 105, 124, 146, 179], 47) by decide +kernel) (by decide) (by decide) (by decide) (by decide)
  rw [if_neg c4]
  by_cases c5 : x = 4
  · subst c5; rw [if_pos rfl]; exact x_tsw (off := 124) (qm127 fv) (show ix_dc ixI127 17 = some (.tableswitch 212 (-1) 6 #[47, 49, 65, 74, 105, 124, 146, 179], 47) by decide +kernel) (by decide) (by decide) (by decide) (by decide)
  rw [if_neg c5]
  by_cases c6 : x = 5
  · subst c6; rw [if_pos rfl]; exact x_tsw (off := 146) (qm127 fv) (show ix_dc ixI127 17 = some (.tableswitch 212 (-1) 6 #[47, 49, 65, 74, 105, 124, 146, 179], 47) by decide +kernel) (by decide) (by decide) (by decide) (by decide)
  rw [if_neg c6]
  by_cases c7 : x = 6
  · subst c7; rw [if_pos rfl]; exact x_tsw (off := 179) (qm127 fv) (show ix_dc ixI127 17 = some (.tableswitch 212 (-1) 6 #[47, 49, 65, 74, 105, 124, 146, 179], 47) by decide +kernel) (by decide) (by decide) (by decide) (by decide)
  rw [if_neg c7]
  have e0 := tsw_ne c0 (k := (-1)) (by decide)
  have e1 := tsw_ne c1 (k := 0) (by decide)
  have e2 := tsw_ne c2 (k := 1) (by decide)
  have e3 := tsw_ne c3 (k := 2) (by decide)
  have e4 := tsw_ne c4 (k := 3) (by decide)
  have e5 := tsw_ne c5 (k := 4) (by decide)
  have e6 := tsw_ne c6 (k := 5) (by decide)
  have e7 := tsw_ne c7 (k := 6) (by decide)
  exact x_tswD (qm127 fv) (show ix_dc ixI127 17 = some (.tableswitch 212 (-1) 6 #[47, 49, 65, 74, 105, 124, 146, 179], 47) by decide +kernel) (by omega) (by decide) (by decide)
theorem q170_7 {fv : Value} {d : Nat} {st : List Value} {h : ix_H} {l0 l1 : Option Value} {x : Int32} : xe (ixP fv) d 170 7 [l0, l1] (.int x :: st) h = if x = 0 then xe (ixP fv) d 170 40 [l0, l1] st h else if x = 1 then xe (ixP fv) d 170 63 [l0, l1] st h else if x = 2 then xe (ixP fv) d 170 103 [l0, l1] st h else if x = 3 then xe (ixP fv) d 170 140 [l0, l1] st h else if x = 4 then xe (ixP fv) d 170 168 [l0, l1] st h else xe (ixP fv) d 170 171 [l0, l1] st h := by
  by_cases c0 : x = 0
  · subst c0; rw [if_pos rfl]; exact x_tsw (off := 33) (qm170 fv) (show ix_dc ixI170 7 = some (.tableswitch 164 0 4 #[33, 56, 96, 133, 161], 33) by decide +kernel) (by decide) (by decide) (by decide) (by decide)
  rw [if_neg c0]
  by_cases c1 : x = 1
  · subst c1; rw [if_pos rfl]; exact x_tsw (off := 56) (qm170 fv) (show ix_dc ixI170 7 = some (.tableswitch 164 0 4 #[33, 56, 96, 133, 161], 33) by decide +kernel) (by decide) (by decide) (by decide) (by decide)
  rw [if_neg c1]
  by_cases c2 : x = 2
  · subst c2; rw [if_pos rfl]; exact x_tsw (off := 96) (qm170 fv) (show ix_dc ixI170 7 = some (.tableswitch 164 0 4 #[33, 56, 96, 133, 161], 33) by decide +kernel) (by decide) (by decide) (by decide) (by decide)
  rw [if_neg c2]
  by_cases c3 : x = 3
  · subst c3; rw [if_pos rfl]; exact x_tsw (off := 133) (qm170 fv) (show ix_dc ixI170 7 = some (.tableswitch 164 0 4 #[33, 56, 96, 133, 161], 33) by decide +kernel) (by decide) (by decide) (by decide) (by decide)
  rw [if_neg c3]
  by_cases c4 : x = 4
  · subst c4; rw [if_pos rfl]; exact x_tsw (off := 161) (qm170 fv) (show ix_dc ixI170 7 = some (.tableswitch 164 0 4 #[33, 56, 96, 133, 161], 33) by decide +kernel) (by decide) (by decide) (by decide) (by decide)
  rw [if_neg c4]
  have e0 := tsw_ne c0 (k := 0) (by decide)
  have e1 := tsw_ne c1 (k := 1) (by decide)
  have e2 := tsw_ne c2 (k := 2) (by decide)
  have e3 := tsw_ne c3 (k := 3) (by decide)
  have e4 := tsw_ne c4 (k := 4) (by decide)
  exact x_tswD (qm170 fv) (show ix_dc ixI170 7 = some (.tableswitch 164 0 4 #[33, 56, 96, 133, 161], 33) by decide +kernel) (by omega) (by decide) (by decide)
theorem q171_7 {fv : Value} {d : Nat} {st : List Value} {h : ix_H} {l0 l1 : Option Value} {x : Int32} : xe (ixP fv) d 171 7 [l0, l1] (.int x :: st) h = if x = (-1) then xe (ixP fv) d 171 52 [l0, l1] st h else if x = 0 then xe (ixP fv) d 171 55 [l0, l1] st h else if x = 1 then xe (ixP fv) d 171 80 [l0, l1] st h else if x = 2 then xe (ixP fv) d 171 103 [l0, l1] st h else if x = 3 then xe (ixP fv) d 171 126 [l0, l1] st h else if x = 4 then xe (ixP fv) d 171 158 [l0, l1] st h else if x = 5 then xe (ixP fv) d 171 205 [l0, l1] st h else if x = 6 then xe (ixP fv) d 171 234 [l0, l1] st h else xe (ixP fv) d 171 278 [l0, l1] st h := by
  by_cases c0 : x = (-1)
  · subst c0; rw [if_pos rfl]; exact x_tsw (off := 45) (qm171 fv) (show ix_dc ixI171 7 = some (.tableswitch 271 (-1) 6 #[45, 48, 73, 96, 119, 151, 198, 227], 45) by decide +kernel) (by decide) (by decide) (by decide) (by decide)
  rw [if_neg c0]
  by_cases c1 : x = 0
  · subst c1; rw [if_pos rfl]; exact x_tsw (off := 48) (qm171 fv) (show ix_dc ixI171 7 = some (.tableswitch 271 (-1) 6 #[45, 48, 73, 96, 119, 151, 198, 227], 45) by decide +kernel) (by decide) (by decide) (by decide) (by decide)
  rw [if_neg c1]
  by_cases c2 : x = 1
  · subst c2; rw [if_pos rfl]; exact x_tsw (off := 73) (qm171 fv) (show ix_dc ixI171 7 = some (.tableswitch 271 (-1) 6 #[45, 48, 73, 96, 119, 151, 198, 227], 45) by decide +kernel) (by decide) (by decide) (by decide) (by decide)
  rw [if_neg c2]
  by_cases c3 : x = 2
  · subst c3; rw [if_pos rfl]; exact x_tsw (off := 96) (qm171 fv) (show ix_dc ixI171 7 = some (.tableswitch 271 (-1) 6 #[45, 48, 73, 96, 119, 151, 198, 227], 45) by decide +kernel) (by decide) (by decide) (by decide) (by decide)
  rw [if_neg c3]
  by_cases c4 : x = 3
  · subst c4; rw [if_pos rfl]; exact x_tsw (off := 119) (qm171 fv) (show ix_dc ixI171 7 = some (.tableswitch 271 (-1) 6 #[45, 48, 73, 96, 119, 151, 198, 227], 45) by decide +kernel) (by decide) (by decide) (by decide) (by decide)
  rw [if_neg c4]
  by_cases c5 : x = 4
  · subst c5; rw [if_pos rfl]; exact x_tsw (off := 151) (qm171 fv) (show ix_dc ixI171 7 = some (.tableswitch 271 (-1) 6 #[45, 48, 73, 96, 119, 151, 198, 227], 45) by decide +kernel) (by decide) (by decide) (by decide) (by decide)
  rw [if_neg c5]
  by_cases c6 : x = 5
  · subst c6; rw [if_pos rfl]; exact x_tsw (off := 198) (qm171 fv) (show ix_dc ixI171 7 = some (.tableswitch 271 (-1) 6 #[45, 48, 73, 96, 119, 151, 198, 227], 45) by decide +kernel) (by decide) (by decide) (by decide) (by decide)
  rw [if_neg c6]
  by_cases c7 : x = 6
  · subst c7; rw [if_pos rfl]; exact x_tsw (off := 227) (qm171 fv) (show ix_dc ixI171 7 = some (.tableswitch 271 (-1) 6 #[45, 48, 73, 96, 119, 151, 198, 227], 45) by decide +kernel) (by decide) (by decide) (by decide) (by decide)
  rw [if_neg c7]
  have e0 := tsw_ne c0 (k := (-1)) (by decide)
  have e1 := tsw_ne c1 (k := 0) (by decide)
  have e2 := tsw_ne c2 (k := 1) (by decide)
  have e3 := tsw_ne c3 (k := 2) (by decide)
  have e4 := tsw_ne c4 (k := 3) (by decide)
  have e5 := tsw_ne c5 (k := 4) (by decide)
  have e6 := tsw_ne c6 (k := 5) (by decide)
  have e7 := tsw_ne c7 (k := 6) (by decide)
  exact x_tswD (qm171 fv) (show ix_dc ixI171 7 = some (.tableswitch 271 (-1) 6 #[45, 48, 73, 96, 119, 151, 198, 227], 45) by decide +kernel) (by omega) (by decide) (by decide)
theorem q174_18 {fv : Value} {d : Nat} {st : List Value} {h : ix_H} {l0 l1 l2 l3 l4 l5 : Option Value} {x : Int32} : xe (ixP fv) d 174 18 [l0, l1, l2, l3, l4, l5] (.int x :: st) h = if x = 0 then xe (ixP fv) d 174 52 [l0, l1, l2, l3, l4, l5] st h else if x = 1 then xe (ixP fv) d 174 91 [l0, l1, l2, l3, l4, l5] st h else if x = 2 then xe (ixP fv) d 174 91 [l0, l1, l2, l3, l4, l5] st h else if x = 3 then xe (ixP fv) d 174 159 [l0, l1, l2, l3, l4, l5] st h else if x = 4 then xe (ixP fv) d 174 215 [l0, l1, l2, l3, l4, l5] st h else xe (ixP fv) d 174 270 [l0, l1, l2, l3, l4, l5] st h := by
  by_cases c0 : x = 0
  · subst c0; rw [if_pos rfl]; exact x_tsw (off := 34) (qm174 fv) (show ix_dc ixI174 18 = some (.tableswitch 252 0 4 #[34, 73, 73, 141, 197], 34) by decide +kernel) (by decide) (by decide) (by decide) (by decide)
  rw [if_neg c0]
  by_cases c1 : x = 1
  · subst c1; rw [if_pos rfl]; exact x_tsw (off := 73) (qm174 fv) (show ix_dc ixI174 18 = some (.tableswitch 252 0 4 #[34, 73, 73, 141, 197], 34) by decide +kernel) (by decide) (by decide) (by decide) (by decide)
  rw [if_neg c1]
  by_cases c2 : x = 2
  · subst c2; rw [if_pos rfl]; exact x_tsw (off := 73) (qm174 fv) (show ix_dc ixI174 18 = some (.tableswitch 252 0 4 #[34, 73, 73, 141, 197], 34) by decide +kernel) (by decide) (by decide) (by decide) (by decide)
  rw [if_neg c2]
  by_cases c3 : x = 3
  · subst c3; rw [if_pos rfl]; exact x_tsw (off := 141) (qm174 fv) (show ix_dc ixI174 18 = some (.tableswitch 252 0 4 #[34, 73, 73, 141, 197], 34) by decide +kernel) (by decide) (by decide) (by decide) (by decide)
  rw [if_neg c3]
  by_cases c4 : x = 4
  · subst c4; rw [if_pos rfl]; exact x_tsw (off := 197) (qm174 fv) (show ix_dc ixI174 18 = some (.tableswitch 252 0 4 #[34, 73, 73, 141, 197], 34) by decide +kernel) (by decide) (by decide) (by decide) (by decide)
  rw [if_neg c4]
  have e0 := tsw_ne c0 (k := 0) (by decide)
  have e1 := tsw_ne c1 (k := 1) (by decide)
  have e2 := tsw_ne c2 (k := 2) (by decide)
  have e3 := tsw_ne c3 (k := 3) (by decide)
  have e4 := tsw_ne c4 (k := 4) (by decide)
  exact x_tswD (qm174 fv) (show ix_dc ixI174 18 = some (.tableswitch 252 0 4 #[34, 73, 73, 141, 197], 34) by decide +kernel) (by omega) (by decide) (by decide)
theorem q101_38 {fv : Value} {d : Nat} {st : List Value} {h : ix_H} {l0 l1 : Option Value} (hs : (st.map Value.category).sum ≤ 8) : xe (ixP fv) d 101 38 [l0, l1] st h = some (.inr 10, h ++ [.inr (10, [])]) := by
  refine xe_throw (qm101 fv) (show ix_dc ixI101 38 = some (.new 45, 3) by decide +kernel) ?_
  have e : ix_fd 101 38 (ix_XT (ixP fv)) = some (10, 45, 225, 49, "java/lang/IllegalStateException", "the pane was not let go", ["java/lang/RuntimeException", "java/lang/Exception"]) := rfl
  simp only [ix_tw, e]
  rw [if_pos hs]
theorem q174_121 {fv : Value} {d : Nat} {st : List Value} {h : ix_H} {l0 l1 l2 l3 l4 l5 : Option Value} {o : Nat} {v : Int32} (hs : (st.map Value.category).sum ≤ 8) (ho : ix_is (ixP fv) h o "SkylightWash" = true) : xe (ixP fv) (d + 1) 174 121 [l0, l1, l2, l3, l4, l5] (.int v :: .ref o :: st) h = xX (ixP fv) (d + 1) 174 124 10 148 [l0, l1, l2, l3, l4, l5] ((ix_st 5 .null [l0, l1, l2, l3, l4, l5]).set 5 none) st (xe (ixP fv) d 101 0 [some (.ref o), some (.int v)] [] h) := by
  have hd : ix_dc ixI174 121 = some (.invokevirtual 189, 3) := by decide +kernel
  have hc : ix_fd 0 189 ixCT = some (0, 101, "SkylightWash", "") := by decide +kernel
  refine xe_callX (len := 3) (kx := (0, 101, "SkylightWash", "")) (me := ixM101) (as := [.ref o, .int v]) (rest := st) (qm174 fv) hd rfl (by show (if 3 = 3 then ix_s2 (ixP fv) ixM174 (.int v :: .ref o :: st) h 189 0 else none) = _; rw [if_pos rfl]; exact ix_s2_of (as := [.ref o, .int v]) hc (qm101 fv) rfl rfl hs (Nat.le_of_ble_eq_true rfl) (Or.inr ⟨o, [.int v], rfl, ho⟩) rfl) ?_
  intro x
  have h1 : ix_fd 174 121 (ix_HT (ixP fv)) = some (146, 195, "java/lang/IllegalStateException") := rfl
  have h2 : ix_dc ixI174 146 = some (.astore 5, 2) := by decide +kernel
  have h3 : ∀ x, x < 11 → (ixCL[x]?.map (fun r => r.1)) = some "java/lang/IllegalStateException" → x = 10 := by decide +kernel
  have h3' : (ixCL[10]?.map (fun r => r.1)) = some "java/lang/IllegalStateException" := by decide +kernel
  unfold ix_ca
  rw [h1]
  cases hx : (ix_CL (ixP fv))[x]? with
  | none =>
    have hx' : ixCL[x]? = none := hx
    have : ¬ x = 10 := fun e => by rw [e] at hx'; rw [hx'] at h3'; cases h3'
    rw [if_neg this]
  | some r =>
    have hx' : ixCL[x]? = some r := hx
    have hlt : x < 11 := (List.getElem?_eq_some_iff.mp hx').1
    show (match ix_dc ixI174 146 with
    | some (.astore i, 2) => if i < ([l0, l1, l2, l3, l4, l5] : ix_L).length ∧ r.1 = "java/lang/IllegalStateException" then some (146 + 2, (ix_st i .null [l0, l1, l2, l3, l4, l5]).set i none) else none
    | _ => none) = _
    rw [h2]
    by_cases e : x = 10
    · have hr : r.1 = "java/lang/IllegalStateException" := by
        rw [e] at hx'; rw [hx'] at h3'; exact Option.some.inj h3'
      rw [if_pos e]
      exact if_pos ⟨Nat.le_of_ble_eq_true rfl, hr⟩
    · rw [if_neg e]
      have hr : ¬ r.1 = "java/lang/IllegalStateException" := fun hr => e (h3 x hlt (by rw [hx']; exact congrArg some hr))
      exact if_neg (fun c => hr c.2)
