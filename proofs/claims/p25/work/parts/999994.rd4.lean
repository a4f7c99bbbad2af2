/-! THE READER: sums and tests on tokens (written by gen999994.py). -/
def Tat (N : Mem) (L : Jem) (q : Nat) (T : List (List Int32)) : Prop := ∀ (j : Nat) (t : List Int32), T[j]? = some t → TK N (q + j) = lexK KW t ∧ TV L (q + j) = lexV t
/-- the names are there -/
def NM (L : Jem) (nb nc nf : Nat) : Prop := (nb ≤ 5 ∧ nc ≤ 3 ∧ nf ≤ 3) ∧ (∀ j, j < nb → fnd (L 3) (lexV (98 :: dgt j)) nb = nI j) ∧ (∀ j, j < nc → fnd (L 5) (lexV (99 :: dgt j)) nc = nI j) ∧ (∀ j, j < nf → fnd (L 6) (lexV (102 :: dgt j)) nf = nI j)
/-- a sum as items -/
def smI (a2 a3 a6 a8 a9 : Nat) : List (List Int32 × Bool) := if a2 = 0 then [(dgt (a3 % 45), true)] else if a2 = 1 then [([97, 116], true), ([32], false), (99 :: dgt a8, true), ([43], true), (dgt a6, true), ([45], true), ([51], true)] else if a2 = 2 then [([109, 105, 110], true), ([40], true), ([100, 105, 114, 116], true), ([40], true), (dgt a6, true), ([41], true), ([44], true), (dgt a3, true), ([41], true), ([45], true), ([50], true)] else if a2 = 3 then [([109, 97, 120], true), ([40], true), ([112, 101, 114, 99, 104], true), ([32], false), (102 :: dgt a9, true), ([44], true), ([48], true), ([41], true), ([42], true), ([50], true), ([47], true), ([50], true)] else if a2 = 4 then [([104, 111, 117, 114], true), ([45], true), ([104, 111, 117, 114], true), ([47], true), ([57], true), ([42], true), ([57], true), ([43], true), ([119, 105, 110, 100], true)] else [([45], true), ([50], true), ([43], true), (dgt a6, true)]
/-- a test as items -/
def teI (a4 a5 a6 a7 a8 a9 : Nat) : List (List Int32 × Bool) := if a4 = 8 then [] else if a4 = 0 then [([32], false), ([119, 104, 101, 110], true), ([32], false), ([104, 111, 117, 114], true), ([62], true), (dgt a5, true), ([47], true), ([52], true)] else if a4 = 1 then [([32], false), ([119, 104, 101, 110], true), ([32], false), ([100, 97, 114, 107], true), ([32], false), (98 :: dgt a7, true)] else if a4 = 2 then [([32], false), ([119, 104, 101, 110], true), ([32], false), ([110, 111, 116], true), ([32], false), ([100, 97, 114, 107], true), ([32], false), (98 :: dgt a7, true)] else if a4 = 3 then [([32], false), ([119, 104, 101, 110], true), ([32], false), ([100, 105, 114, 116], true), ([40], true), (dgt a6, true), ([41], true), ([62, 61], true), (dgt a5, true)] else if a4 = 4 then [([32], false), ([119, 104, 101, 110], true), ([32], false), ([119, 97, 116, 101, 114], true), ([32], false), (99 :: dgt a8, true), ([61], true), ([48], true), ([32], false), ([111, 114], true), ([32], false), ([97, 116], true), ([32], false), (99 :: dgt a8, true), ([62], true), (dgt a6, true)] else if a4 = 5 then [([32], false), ([119, 104, 101, 110], true), ([32], false), ([91], true), ([108, 105, 103, 104, 116], true), ([60], true), (dgt a5, true), ([42], true), ([51, 48], true), ([32], false), ([97, 110, 100], true), ([32], false), ([119, 105, 110, 100], true), ([62, 61], true), ([48], true), ([93], true), ([111, 114], true), ([32], false), ([110, 111, 116], true), ([32], false), ([104, 111, 117, 114], true), ([61], true), (dgt a5, true)] else if a4 = 6 then [([32], false), ([119, 104, 101, 110], true), ([32], false), ([99, 114, 97, 99, 107], true), ([40], true), (dgt a6, true), ([41], true), ([42], true), ([50], true), ([32], false), ([62], true), ([32], false), (dgt a5, true), ([32], false), ([45], true), ([32], false), ([112, 101, 114, 99, 104], true), ([32], false), (102 :: dgt a9, true)] else [([32], false), ([119, 104, 101, 110], true), ([32], false), (dgt a5, true), ([47], true), ([50], true), ([42], true), ([50], true), ([61], true), (dgt a5, true)]
/-- their steps -/
def cS (a2 a3 a6 a8 a9 : Nat) : List (Int32 × Int32) := if a2 = 0 then [(48, nI (a3 % 45))] else if a2 = 1 then [(5, nI a8), (48, nI a6), (43, 0), (48, 3), (45, 0)] else if a2 = 2 then [(48, nI a6), (21, 0), (48, nI a3), (29, 0), (48, 2), (45, 0)] else if a2 = 3 then [(24, nI a9), (48, 0), (30, 0), (48, 2), (42, 0), (48, 2), (47, 0)] else if a2 = 4 then [(18, 0), (18, 0), (48, 9), (47, 0), (48, 9), (42, 0), (45, 0), (19, 0), (43, 0)] else [(48, 2), (301, 0), (48, nI a6), (43, 0)]
def cH (a4 a5 a6 a7 a8 a9 : Nat) : List (Int32 × Int32) := if a4 = 8 then [] else if a4 = 0 then [(18, 0), (48, nI a5), (48, 4), (47, 0), (62, 0)] else if a4 = 1 then [(25, nI a7)] else if a4 = 2 then [(25, nI a7), (26, 0)] else if a4 = 3 then [(48, nI a6), (21, 0), (48, nI a5), (318, 0)] else if a4 = 4 then [(23, nI a8), (48, 0), (61, 0), (5, nI a8), (48, nI a6), (62, 0), (28, 0)] else if a4 = 5 then [(20, 0), (48, nI a5), (48, 30), (42, 0), (60, 0), (19, 0), (48, 0), (318, 0), (27, 0), (18, 0), (48, nI a5), (61, 0), (26, 0), (28, 0)] else if a4 = 6 then [(48, nI a6), (22, 0), (48, 2), (42, 0), (48, nI a5), (24, nI a9), (45, 0), (62, 0)] else [(48, nI a5), (48, 2), (47, 0), (48, 2), (42, 0), (48, nI a5), (61, 0)]
theorem kd3 (n : Nat) (h : n < 130) : ascB (dgt n) = true ∧ lexOK (dgt n) = true ∧ lexK KW (dgt n) = 48 := ⟨(kd n h).1, (kd n h).2.1, (kd n h).2.2.1⟩
theorem kl0 : ascB [48] = true ∧ lexOK [48] = true ∧ lexK KW [48] = 48 := by decide +kernel
theorem kl0v : (lexV [48]).toInt32 = 0 := by decide +kernel
theorem kl2 : ascB [50] = true ∧ lexOK [50] = true ∧ lexK KW [50] = 48 := by decide +kernel
theorem kl2v : (lexV [50]).toInt32 = 2 := by decide +kernel
theorem kl3 : ascB [51] = true ∧ lexOK [51] = true ∧ lexK KW [51] = 48 := by decide +kernel
theorem kl3v : (lexV [51]).toInt32 = 3 := by decide +kernel
theorem kl4 : ascB [52] = true ∧ lexOK [52] = true ∧ lexK KW [52] = 48 := by decide +kernel
theorem kl4v : (lexV [52]).toInt32 = 4 := by decide +kernel
theorem kl9 : ascB [57] = true ∧ lexOK [57] = true ∧ lexK KW [57] = 48 := by decide +kernel
theorem kl9v : (lexV [57]).toInt32 = 9 := by decide +kernel
theorem kl30 : ascB [51, 48] = true ∧ lexOK [51, 48] = true ∧ lexK KW [51, 48] = 48 := by decide +kernel
theorem kl30v : (lexV [51, 48]).toInt32 = 30 := by decide +kernel
section RD4
variable {fv : Value} {h : ix_H} {r pl q q1 nb nc nf a2 a3 a4 a5 a6 a7 a8 a9 i n : Nat} {N : Mem} {L : Jem} {w x y : Int32} {T U : List (List Int32 × Bool)} {V W : List (List Int32)} {bs t : List Int32}
theorem Tat_app : Tat N L q (V ++ W) ↔ Tat N L q V ∧ Tat N L (q + V.length) W := by
  constructor
  · intro h
    refine ⟨fun j t hj => h j t ?_, fun j t hj => ?_⟩
    · rw [List.getElem?_append_left (List.getElem?_eq_some_iff.mp hj).1]
      exact hj
    · rw [Nat.add_assoc]
      refine h (V.length + j) t ?_
      rw [List.getElem?_append_right (by omega), Nat.add_sub_cancel_left]
      exact hj
  · rintro ⟨h1, h2⟩ j t hj
    by_cases c : j < V.length
    · rw [List.getElem?_append_left c] at hj
      exact h1 j t hj
    · rw [List.getElem?_append_right (by omega)] at hj
      have := h2 _ t hj
      rw [Nat.add_assoc, show V.length + (j - V.length) = j by omega] at this
      exact this
theorem nm1 {a : Nat} (h : a < 10) : ¬ nI a = -1 := by
  intro e
  have h1 := congrArg Int32.toInt e
  rw [nI_toInt (by omega)] at h1
  have : (-1 : Int32).toInt = -1 := by decide
  omega
theorem okI_t {t : List Int32} {v : Int32} (h : ascB t = true ∧ lexOK t = true ∧ lexK KW t = v) (h0 : ¬ v = 0 ∧ ¬ v = -1) (hs : sepOK t (fst1 (flt T) y) = true) (hT : okI T y) : okI ((t, true) :: T) y := by
  refine ⟨h.1, ?_, hT⟩
  rw [if_pos rfl]
  refine ⟨h.2.1, ?_, hs⟩
  rw [h.2.2]
  exact h0
theorem okI_b {t : List Int32} (h : ascB t = true ∧ t.all isBl = true) (hT : okI T y) : okI ((t, false) :: T) y := by
  refine ⟨h.1, ?_, hT⟩
  rw [if_neg Bool.false_ne_true]
  exact h.2
theorem sp_l (h : isDg x = true) (hy : isWd y = false) : sepOK (x :: bs) y = true := by
  unfold sepOK
  rw [if_pos (Or.inr (show isDg (hd (x :: bs)) = true from h)), hy]
  rfl
theorem sp40 : sepOK [40] y = true := by
  unfold sepOK
  rw [if_neg (by decide), if_neg (by decide)]
theorem sp41 : sepOK [41] y = true := by
  unfold sepOK
  rw [if_neg (by decide), if_neg (by decide)]
theorem sp91 : sepOK [91] y = true := by
  unfold sepOK
  rw [if_neg (by decide), if_neg (by decide)]
theorem sp93 : sepOK [93] y = true := by
  unfold sepOK
  rw [if_neg (by decide), if_neg (by decide)]
theorem sp59 : sepOK [59] y = true := by
  unfold sepOK
  rw [if_neg (by decide), if_neg (by decide)]
theorem sp44 : sepOK [44] y = true := by
  unfold sepOK
  rw [if_neg (by decide), if_neg (by decide)]
theorem sp43 : sepOK [43] y = true := by
  unfold sepOK
  rw [if_neg (by decide), if_neg (by decide)]
theorem sp45 : sepOK [45] y = true := by
  unfold sepOK
  rw [if_neg (by decide), if_neg (by decide)]
theorem sp42 : sepOK [42] y = true := by
  unfold sepOK
  rw [if_neg (by decide), if_neg (by decide)]
theorem sp47 : sepOK [47] y = true := by
  unfold sepOK
  rw [if_neg (by decide), if_neg (by decide)]
theorem sp61 : sepOK [61] y = true := by
  unfold sepOK
  rw [if_neg (by decide), if_neg (by decide)]
theorem sp318 : sepOK [62, 61] y = true := by
  unfold sepOK
  rw [if_neg (by decide), if_neg (by decide)]
theorem su_0 (g : gQ h r pl N) (hm : NM L nb nc nf) (h3 : a3 < 130) (h6 : a6 < 130) (h8 : a8 < nc) (h9 : a9 < nf) (hT : Tat N L q [dgt (a3 % 45)]) (n42 : ¬ TK N (q + 1) = 42) (n47 : ¬ TK N (q + 1) = 47) (n43 : ¬ TK N (q + 1) = 43) (n45 : ¬ TK N (q + 1) = 45) : PSu fv h r pl N L nb nc nf 20 0 q (q + 1) [(48, nI (a3 % 45))] := by
  obtain ⟨hnb, hnc, hnf⟩ := hm.1
  have h8T : a8 < 10 := by omega
  have h9T : a9 < 10 := by omega
  have T0 : TK N (q) = 48 := (hT 0 _ rfl).1.trans (kd3 (a3 % 45) (by omega)).2.2
  have V0 : (TV L (q)).toInt32 = nI (a3 % 45) := (congrArg Int64.toInt32 (hT 0 _ rfl).2).trans (kd (a3 % 45) (by omega)).2.2.2.1
  have E := (PSu_ (fv := fv) (nb := nb) (nc := nc) (nf := nf) (dep := 0) g (PPr_ g (V_num (q := q) g T0 V0) (LPr_le (LPr_end (q := (q + 1)) g n42 n47) (by decide : 0 ≤ 4)) (by decide)) (LSu_le (LSu_end (q := (q + 1)) g n43 n45) (by decide : 0 ≤ 5)) (by decide))
  exact PSu_le E (by decide : 5 ≤ 20)
theorem su_1 (g : gQ h r pl N) (hm : NM L nb nc nf) (h3 : a3 < 130) (h6 : a6 < 130) (h8 : a8 < nc) (h9 : a9 < nf) (hT : Tat N L q [[97, 116], 99 :: dgt a8, [43], dgt a6, [45], [51]]) (n42 : ¬ TK N (q + 6) = 42) (n47 : ¬ TK N (q + 6) = 47) (n43 : ¬ TK N (q + 6) = 43) (n45 : ¬ TK N (q + 6) = 45) : PSu fv h r pl N L nb nc nf 20 0 q (q + 6) [(5, nI a8), (48, nI a6), (43, 0), (48, 3), (45, 0)] := by
  obtain ⟨hnb, hnc, hnf⟩ := hm.1
  have h8T : a8 < 10 := by omega
  have h9T : a9 < 10 := by omega
  have T0 : TK N (q) = 5 := (hT 0 _ rfl).1.trans kk5.2.2
  have T1 : TK N (q + 1) = 97 := (hT 1 _ rfl).1.trans (kn99 a8 h8T).2.2
  have F1 : fnd (L 5) (TV L (q + 1)) nc = nI a8 := by rw [(hT 1 _ rfl).2]; exact hm.2.2.1 _ h8
  have I1 : ¬ nI a8 = -1 := nm1 h8T
  have T2 : TK N (q + 2) = 43 := (hT 2 _ rfl).1.trans ks43.2.2
  have T3 : TK N (q + 3) = 48 := (hT 3 _ rfl).1.trans (kd3 a6 h6).2.2
  have V3 : (TV L (q + 3)).toInt32 = nI a6 := (congrArg Int64.toInt32 (hT 3 _ rfl).2).trans (kd a6 h6).2.2.2.1
  have T4 : TK N (q + 4) = 45 := (hT 4 _ rfl).1.trans ks45.2.2
  have T5 : TK N (q + 5) = 48 := (hT 5 _ rfl).1.trans kl3.2.2
  have V5 : (TV L (q + 5)).toInt32 = 3 := (congrArg Int64.toInt32 (hT 5 _ rfl).2).trans kl3v
  have E := (PSu_ (fv := fv) (nb := nb) (nc := nc) (nf := nf) (dep := 0) g (PPr_ g (V_5 (q := q) g T0 T1 hnc F1 I1) (LPr_le (LPr_end (q := (q + 2)) g (by rw [T2]; decide) (by rw [T2]; decide)) (by decide : 0 ≤ 5)) (by decide)) (LSu_le (LSu_43 (q := (q + 2)) (i := 0) g (by decide) T2 (PPr_ g (V_num (q := (q + 3)) g T3 V3) (LPr_le (LPr_end (q := (q + 4)) g (by rw [T4]; decide) (by rw [T4]; decide)) (by decide : 0 ≤ 4)) (by decide)) (LSu_45 (q := (q + 4)) (i := 1) g (by decide) T4 (PPr_ g (V_num (q := (q + 5)) g T5 V5) (LPr_le (LPr_end (q := (q + 6)) g n42 n47) (by decide : 0 ≤ 4)) (by decide)) (LSu_le (LSu_end (q := (q + 6)) g n43 n45) (by decide : 0 ≤ 5)) (by decide)) (by decide)) (by decide : 5 ≤ 6)) (by decide))
  exact PSu_le E (by decide : 6 ≤ 20)
theorem su_2 (g : gQ h r pl N) (hm : NM L nb nc nf) (h3 : a3 < 130) (h6 : a6 < 130) (h8 : a8 < nc) (h9 : a9 < nf) (hT : Tat N L q [[109, 105, 110], [40], [100, 105, 114, 116], [40], dgt a6, [41], [44], dgt a3, [41], [45], [50]]) (n42 : ¬ TK N (q + 11) = 42) (n47 : ¬ TK N (q + 11) = 47) (n43 : ¬ TK N (q + 11) = 43) (n45 : ¬ TK N (q + 11) = 45) : PSu fv h r pl N L nb nc nf 20 0 q (q + 11) [(48, nI a6), (21, 0), (48, nI a3), (29, 0), (48, 2), (45, 0)] := by
  obtain ⟨hnb, hnc, hnf⟩ := hm.1
  have h8T : a8 < 10 := by omega
  have h9T : a9 < 10 := by omega
  have T0 : TK N (q) = 29 := (hT 0 _ rfl).1.trans kk29.2.2
  have T1 : TK N (q + 1) = 40 := (hT 1 _ rfl).1.trans ks40.2.2
  have T2 : TK N (q + 2) = 21 := (hT 2 _ rfl).1.trans kk21.2.2
  have T3 : TK N (q + 3) = 40 := (hT 3 _ rfl).1.trans ks40.2.2
  have T4 : TK N (q + 4) = 48 := (hT 4 _ rfl).1.trans (kd3 a6 h6).2.2
  have V4 : (TV L (q + 4)).toInt32 = nI a6 := (congrArg Int64.toInt32 (hT 4 _ rfl).2).trans (kd a6 h6).2.2.2.1
  have T5 : TK N (q + 5) = 41 := (hT 5 _ rfl).1.trans ks41.2.2
  have T6 : TK N (q + 6) = 44 := (hT 6 _ rfl).1.trans ks44.2.2
  have T7 : TK N (q + 7) = 48 := (hT 7 _ rfl).1.trans (kd3 a3 h3).2.2
  have V7 : (TV L (q + 7)).toInt32 = nI a3 := (congrArg Int64.toInt32 (hT 7 _ rfl).2).trans (kd a3 h3).2.2.2.1
  have T8 : TK N (q + 8) = 41 := (hT 8 _ rfl).1.trans ks41.2.2
  have T9 : TK N (q + 9) = 45 := (hT 9 _ rfl).1.trans ks45.2.2
  have T10 : TK N (q + 10) = 48 := (hT 10 _ rfl).1.trans kl2.2.2
  have V10 : (TV L (q + 10)).toInt32 = 2 := (congrArg Int64.toInt32 (hT 10 _ rfl).2).trans kl2v
  have E := (PSu_ (fv := fv) (nb := nb) (nc := nc) (nf := nf) (dep := 0) g (PPr_ g (V_29 (q := q) g T0 (P_ (q := (q + 1)) g T1 (by decide) (PSu_ g (PPr_ g (V_21 (q := (q + 2)) g T2 (B_ (q := (q + 3)) g T3 (by decide) (PSu_ g (PPr_ g (V_num (q := (q + 4)) g T4 V4) (LPr_le (LPr_end (q := (q + 5)) g (by rw [T5]; decide) (by rw [T5]; decide)) (by decide : 0 ≤ 4)) (by decide)) (LSu_le (LSu_end (q := (q + 5)) g (by rw [T5]; decide) (by rw [T5]; decide)) (by decide : 0 ≤ 5)) (by decide)) T5 (by decide)) (by decide)) (LPr_le (LPr_end (q := (q + 6)) g (by rw [T6]; decide) (by rw [T6]; decide)) (by decide : 0 ≤ 8)) (by decide)) (LSu_le (LSu_end (q := (q + 6)) g (by rw [T6]; decide) (by rw [T6]; decide)) (by decide : 0 ≤ 9)) (by decide)) T6 (PSu_le (PSu_ g (PPr_ g (V_num (q := (q + 7)) g T7 V7) (LPr_le (LPr_end (q := (q + 8)) g (by rw [T8]; decide) (by rw [T8]; decide)) (by decide : 0 ≤ 4)) (by decide)) (LSu_le (LSu_end (q := (q + 8)) g (by rw [T8]; decide) (by rw [T8]; decide)) (by decide : 0 ≤ 5)) (by decide)) (by decide : 5 ≤ 9)) T8 (by decide)) (by decide)) (LPr_le (LPr_end (q := (q + 9)) g (by rw [T9]; decide) (by rw [T9]; decide)) (by decide : 0 ≤ 12)) (by decide)) (LSu_le (LSu_45 (q := (q + 9)) (i := 0) g (by decide) T9 (PPr_ g (V_num (q := (q + 10)) g T10 V10) (LPr_le (LPr_end (q := (q + 11)) g n42 n47) (by decide : 0 ≤ 4)) (by decide)) (LSu_le (LSu_end (q := (q + 11)) g n43 n45) (by decide : 0 ≤ 5)) (by decide)) (by decide : 5 ≤ 13)) (by decide))
  exact PSu_le E (by decide : 13 ≤ 20)
theorem su_3 (g : gQ h r pl N) (hm : NM L nb nc nf) (h3 : a3 < 130) (h6 : a6 < 130) (h8 : a8 < nc) (h9 : a9 < nf) (hT : Tat N L q [[109, 97, 120], [40], [112, 101, 114, 99, 104], 102 :: dgt a9, [44], [48], [41], [42], [50], [47], [50]]) (n42 : ¬ TK N (q + 11) = 42) (n47 : ¬ TK N (q + 11) = 47) (n43 : ¬ TK N (q + 11) = 43) (n45 : ¬ TK N (q + 11) = 45) : PSu fv h r pl N L nb nc nf 20 0 q (q + 11) [(24, nI a9), (48, 0), (30, 0), (48, 2), (42, 0), (48, 2), (47, 0)] := by
  obtain ⟨hnb, hnc, hnf⟩ := hm.1
  have h8T : a8 < 10 := by omega
  have h9T : a9 < 10 := by omega
  have T0 : TK N (q) = 30 := (hT 0 _ rfl).1.trans kk30.2.2
  have T1 : TK N (q + 1) = 40 := (hT 1 _ rfl).1.trans ks40.2.2
  have T2 : TK N (q + 2) = 24 := (hT 2 _ rfl).1.trans kk24.2.2
  have T3 : TK N (q + 3) = 97 := (hT 3 _ rfl).1.trans (kn102 a9 h9T).2.2
  have F3 : fnd (L 6) (TV L (q + 3)) nf = nI a9 := by rw [(hT 3 _ rfl).2]; exact hm.2.2.2 _ h9
  have I3 : ¬ nI a9 = -1 := nm1 h9T
  have T4 : TK N (q + 4) = 44 := (hT 4 _ rfl).1.trans ks44.2.2
  have T5 : TK N (q + 5) = 48 := (hT 5 _ rfl).1.trans kl0.2.2
  have V5 : (TV L (q + 5)).toInt32 = 0 := (congrArg Int64.toInt32 (hT 5 _ rfl).2).trans kl0v
  have T6 : TK N (q + 6) = 41 := (hT 6 _ rfl).1.trans ks41.2.2
  have T7 : TK N (q + 7) = 42 := (hT 7 _ rfl).1.trans ks42.2.2
  have T8 : TK N (q + 8) = 48 := (hT 8 _ rfl).1.trans kl2.2.2
  have V8 : (TV L (q + 8)).toInt32 = 2 := (congrArg Int64.toInt32 (hT 8 _ rfl).2).trans kl2v
  have T9 : TK N (q + 9) = 47 := (hT 9 _ rfl).1.trans ks47.2.2
  have T10 : TK N (q + 10) = 48 := (hT 10 _ rfl).1.trans kl2.2.2
  have V10 : (TV L (q + 10)).toInt32 = 2 := (congrArg Int64.toInt32 (hT 10 _ rfl).2).trans kl2v
  have E := (PSu_ (fv := fv) (nb := nb) (nc := nc) (nf := nf) (dep := 0) g (PPr_ g (V_30 (q := q) g T0 (P_ (q := (q + 1)) g T1 (by decide) (PSu_ g (PPr_ g (V_24 (q := (q + 2)) g T2 T3 hnf F3 I3) (LPr_le (LPr_end (q := (q + 4)) g (by rw [T4]; decide) (by rw [T4]; decide)) (by decide : 0 ≤ 5)) (by decide)) (LSu_le (LSu_end (q := (q + 4)) g (by rw [T4]; decide) (by rw [T4]; decide)) (by decide : 0 ≤ 6)) (by decide)) T4 (PSu_le (PSu_ g (PPr_ g (V_num (q := (q + 5)) g T5 V5) (LPr_le (LPr_end (q := (q + 6)) g (by rw [T6]; decide) (by rw [T6]; decide)) (by decide : 0 ≤ 4)) (by decide)) (LSu_le (LSu_end (q := (q + 6)) g (by rw [T6]; decide) (by rw [T6]; decide)) (by decide : 0 ≤ 5)) (by decide)) (by decide : 5 ≤ 6)) T6 (by decide)) (by decide)) (LPr_le (LPr_42 (q := (q + 7)) (i := 0) g (by decide) T7 (V_num (q := (q + 8)) g T8 V8) (LPr_47 (q := (q + 9)) (i := 1) g (by decide) T9 (V_num (q := (q + 10)) g T10 V10) (LPr_le (LPr_end (q := (q + 11)) g n42 n47) (by decide : 0 ≤ 4)) (by decide)) (by decide)) (by decide : 4 ≤ 9)) (by decide)) (LSu_le (LSu_end (q := (q + 11)) g n43 n45) (by decide : 0 ≤ 10)) (by decide))
  exact PSu_le E (by decide : 10 ≤ 20)
theorem su_4 (g : gQ h r pl N) (hm : NM L nb nc nf) (h3 : a3 < 130) (h6 : a6 < 130) (h8 : a8 < nc) (h9 : a9 < nf) (hT : Tat N L q [[104, 111, 117, 114], [45], [104, 111, 117, 114], [47], [57], [42], [57], [43], [119, 105, 110, 100]]) (n42 : ¬ TK N (q + 9) = 42) (n47 : ¬ TK N (q + 9) = 47) (n43 : ¬ TK N (q + 9) = 43) (n45 : ¬ TK N (q + 9) = 45) : PSu fv h r pl N L nb nc nf 20 0 q (q + 9) [(18, 0), (18, 0), (48, 9), (47, 0), (48, 9), (42, 0), (45, 0), (19, 0), (43, 0)] := by
  obtain ⟨hnb, hnc, hnf⟩ := hm.1
  have h8T : a8 < 10 := by omega
  have h9T : a9 < 10 := by omega
  have T0 : TK N (q) = 18 := (hT 0 _ rfl).1.trans kk18.2.2
  have T1 : TK N (q + 1) = 45 := (hT 1 _ rfl).1.trans ks45.2.2
  have T2 : TK N (q + 2) = 18 := (hT 2 _ rfl).1.trans kk18.2.2
  have T3 : TK N (q + 3) = 47 := (hT 3 _ rfl).1.trans ks47.2.2
  have T4 : TK N (q + 4) = 48 := (hT 4 _ rfl).1.trans kl9.2.2
  have V4 : (TV L (q + 4)).toInt32 = 9 := (congrArg Int64.toInt32 (hT 4 _ rfl).2).trans kl9v
  have T5 : TK N (q + 5) = 42 := (hT 5 _ rfl).1.trans ks42.2.2
  have T6 : TK N (q + 6) = 48 := (hT 6 _ rfl).1.trans kl9.2.2
  have V6 : (TV L (q + 6)).toInt32 = 9 := (congrArg Int64.toInt32 (hT 6 _ rfl).2).trans kl9v
  have T7 : TK N (q + 7) = 43 := (hT 7 _ rfl).1.trans ks43.2.2
  have T8 : TK N (q + 8) = 19 := (hT 8 _ rfl).1.trans kk19.2.2
  have E := (PSu_ (fv := fv) (nb := nb) (nc := nc) (nf := nf) (dep := 0) g (PPr_ g (V_18 (q := q) g T0) (LPr_le (LPr_end (q := (q + 1)) g (by rw [T1]; decide) (by rw [T1]; decide)) (by decide : 0 ≤ 4)) (by decide)) (LSu_45 (q := (q + 1)) (i := 0) g (by decide) T1 (PPr_ g (V_18 (q := (q + 2)) g T2) (LPr_47 (q := (q + 3)) (i := 0) g (by decide) T3 (V_num (q := (q + 4)) g T4 V4) (LPr_42 (q := (q + 5)) (i := 1) g (by decide) T5 (V_num (q := (q + 6)) g T6 V6) (LPr_le (LPr_end (q := (q + 7)) g (by rw [T7]; decide) (by rw [T7]; decide)) (by decide : 0 ≤ 4)) (by decide)) (by decide)) (by decide)) (LSu_43 (q := (q + 7)) (i := 1) g (by decide) T7 (PPr_ g (V_19 (q := (q + 8)) g T8) (LPr_le (LPr_end (q := (q + 9)) g n42 n47) (by decide : 0 ≤ 4)) (by decide)) (LSu_le (LSu_end (q := (q + 9)) g n43 n45) (by decide : 0 ≤ 5)) (by decide)) (by decide)) (by decide))
  exact PSu_le E (by decide : 5 ≤ 20)
theorem su_5 (g : gQ h r pl N) (hm : NM L nb nc nf) (h3 : a3 < 130) (h6 : a6 < 130) (h8 : a8 < nc) (h9 : a9 < nf) (hT : Tat N L q [[45], [50], [43], dgt a6]) (n42 : ¬ TK N (q + 4) = 42) (n47 : ¬ TK N (q + 4) = 47) (n43 : ¬ TK N (q + 4) = 43) (n45 : ¬ TK N (q + 4) = 45) : PSu fv h r pl N L nb nc nf 20 0 q (q + 4) [(48, 2), (301, 0), (48, nI a6), (43, 0)] := by
  obtain ⟨hnb, hnc, hnf⟩ := hm.1
  have h8T : a8 < 10 := by omega
  have h9T : a9 < 10 := by omega
  have T0 : TK N (q) = 45 := (hT 0 _ rfl).1.trans ks45.2.2
  have T1 : TK N (q + 1) = 48 := (hT 1 _ rfl).1.trans kl2.2.2
  have V1 : (TV L (q + 1)).toInt32 = 2 := (congrArg Int64.toInt32 (hT 1 _ rfl).2).trans kl2v
  have T2 : TK N (q + 2) = 43 := (hT 2 _ rfl).1.trans ks43.2.2
  have T3 : TK N (q + 3) = 48 := (hT 3 _ rfl).1.trans (kd3 a6 h6).2.2
  have V3 : (TV L (q + 3)).toInt32 = nI a6 := (congrArg Int64.toInt32 (hT 3 _ rfl).2).trans (kd a6 h6).2.2.2.1
  have E := (PSu_ (fv := fv) (nb := nb) (nc := nc) (nf := nf) (dep := 0) g (PPr_ g (V_neg (q := q) g T0 (by decide) (V_num (q := (q + 1)) g T1 V1) (by decide)) (LPr_le (LPr_end (q := (q + 2)) g (by rw [T2]; decide) (by rw [T2]; decide)) (by decide : 0 ≤ 5)) (by decide)) (LSu_le (LSu_43 (q := (q + 2)) (i := 0) g (by decide) T2 (PPr_ g (V_num (q := (q + 3)) g T3 V3) (LPr_le (LPr_end (q := (q + 4)) g n42 n47) (by decide : 0 ≤ 4)) (by decide)) (LSu_le (LSu_end (q := (q + 4)) g n43 n45) (by decide : 0 ≤ 5)) (by decide)) (by decide : 5 ≤ 6)) (by decide))
  exact PSu_le E (by decide : 6 ≤ 20)
theorem te_0 (g : gQ h r pl N) (hm : NM L nb nc nf) (h5 : a5 < 130) (h6 : a6 < 130) (h7 : a7 < nb) (h8 : a8 < nc) (h9 : a9 < nf) (hT : Tat N L q [[119, 104, 101, 110], [104, 111, 117, 114], [62], dgt a5, [47], [52]]) (n42 : ¬ TK N (q + 6) = 42) (n47 : ¬ TK N (q + 6) = 47) (n43 : ¬ TK N (q + 6) = 43) (n45 : ¬ TK N (q + 6) = 45) (n27 : ¬ TK N (q + 6) = 27) (n28 : ¬ TK N (q + 6) = 28) : TK N q = 17 ∧ PTe fv h r pl N L nb nc nf 20 0 (q + 1) (q + 6) [(18, 0), (48, nI a5), (48, 4), (47, 0), (62, 0)] := by
  obtain ⟨hnb, hnc, hnf⟩ := hm.1
  have h7T : a7 < 10 := by omega
  have h8T : a8 < 10 := by omega
  have h9T : a9 < 10 := by omega
  have T0 : TK N (q) = 17 := (hT 0 _ rfl).1.trans kk17.2.2
  have T1 : TK N (q + 1) = 18 := (hT 1 _ rfl).1.trans kk18.2.2
  have T2 : TK N (q + 2) = 62 := (hT 2 _ rfl).1.trans ks62.2.2
  have T3 : TK N (q + 3) = 48 := (hT 3 _ rfl).1.trans (kd3 a5 h5).2.2
  have V3 : (TV L (q + 3)).toInt32 = nI a5 := (congrArg Int64.toInt32 (hT 3 _ rfl).2).trans (kd a5 h5).2.2.2.1
  have T4 : TK N (q + 4) = 47 := (hT 4 _ rfl).1.trans ks47.2.2
  have T5 : TK N (q + 5) = 48 := (hT 5 _ rfl).1.trans kl4.2.2
  have V5 : (TV L (q + 5)).toInt32 = 4 := (congrArg Int64.toInt32 (hT 5 _ rfl).2).trans kl4v
  have E := (PTe_ (fv := fv) (nb := nb) (nc := nc) (nf := nf) (dep := 0) g (PBo_ g (Si_62 (q := (q + 1)) g (by rw [T1]; decide) (by rw [T1]; decide) (by rw [T1]; decide) (PSu_ g (PPr_ g (V_18 (q := (q + 1)) g T1) (LPr_le (LPr_end (q := (q + 2)) g (by rw [T2]; decide) (by rw [T2]; decide)) (by decide : 0 ≤ 4)) (by decide)) (LSu_le (LSu_end (q := (q + 2)) g (by rw [T2]; decide) (by rw [T2]; decide)) (by decide : 0 ≤ 5)) (by decide)) T2 (PSu_ g (PPr_ g (V_num (q := (q + 3)) g T3 V3) (LPr_47 (q := (q + 4)) (i := 0) g (by decide) T4 (V_num (q := (q + 5)) g T5 V5) (LPr_le (LPr_end (q := (q + 6)) g n42 n47) (by decide : 0 ≤ 4)) (by decide)) (by decide)) (LSu_le (LSu_end (q := (q + 6)) g n43 n45) (by decide : 0 ≤ 5)) (by decide)) (by decide)) (LBo_le (LBo_end (q := (q + 6)) g n27) (by decide : 0 ≤ 7)) (by decide)) (LTe_le (LTe_end (q := (q + 6)) g n28) (by decide : 0 ≤ 8)) (by decide))
  exact ⟨T0, PTe_le E (by decide : 8 ≤ 20)⟩
theorem te_1 (g : gQ h r pl N) (hm : NM L nb nc nf) (h5 : a5 < 130) (h6 : a6 < 130) (h7 : a7 < nb) (h8 : a8 < nc) (h9 : a9 < nf) (hT : Tat N L q [[119, 104, 101, 110], [100, 97, 114, 107], 98 :: dgt a7]) (n42 : ¬ TK N (q + 3) = 42) (n47 : ¬ TK N (q + 3) = 47) (n43 : ¬ TK N (q + 3) = 43) (n45 : ¬ TK N (q + 3) = 45) (n27 : ¬ TK N (q + 3) = 27) (n28 : ¬ TK N (q + 3) = 28) : TK N q = 17 ∧ PTe fv h r pl N L nb nc nf 20 0 (q + 1) (q + 3) [(25, nI a7)] := by
  obtain ⟨hnb, hnc, hnf⟩ := hm.1
  have h7T : a7 < 10 := by omega
  have h8T : a8 < 10 := by omega
  have h9T : a9 < 10 := by omega
  have T0 : TK N (q) = 17 := (hT 0 _ rfl).1.trans kk17.2.2
  have T1 : TK N (q + 1) = 25 := (hT 1 _ rfl).1.trans kk25.2.2
  have T2 : TK N (q + 2) = 97 := (hT 2 _ rfl).1.trans (kn98 a7 h7T).2.2
  have F2 : fnd (L 3) (TV L (q + 2)) nb = nI a7 := by rw [(hT 2 _ rfl).2]; exact hm.2.1 _ h7
  have I2 : ¬ nI a7 = -1 := nm1 h7T
  have E := (PTe_ (fv := fv) (nb := nb) (nc := nc) (nf := nf) (dep := 0) g (PBo_ g (Si_dark (q := (q + 1)) g T1 T2 hnb F2 I2) (LBo_le (LBo_end (q := (q + 3)) g n27) (by decide : 0 ≤ 5)) (by decide)) (LTe_le (LTe_end (q := (q + 3)) g n28) (by decide : 0 ≤ 6)) (by decide))
  exact ⟨T0, PTe_le E (by decide : 6 ≤ 20)⟩
theorem te_2 (g : gQ h r pl N) (hm : NM L nb nc nf) (h5 : a5 < 130) (h6 : a6 < 130) (h7 : a7 < nb) (h8 : a8 < nc) (h9 : a9 < nf) (hT : Tat N L q [[119, 104, 101, 110], [110, 111, 116], [100, 97, 114, 107], 98 :: dgt a7]) (n42 : ¬ TK N (q + 4) = 42) (n47 : ¬ TK N (q + 4) = 47) (n43 : ¬ TK N (q + 4) = 43) (n45 : ¬ TK N (q + 4) = 45) (n27 : ¬ TK N (q + 4) = 27) (n28 : ¬ TK N (q + 4) = 28) : TK N q = 17 ∧ PTe fv h r pl N L nb nc nf 20 0 (q + 1) (q + 4) [(25, nI a7), (26, 0)] := by
  obtain ⟨hnb, hnc, hnf⟩ := hm.1
  have h7T : a7 < 10 := by omega
  have h8T : a8 < 10 := by omega
  have h9T : a9 < 10 := by omega
  have T0 : TK N (q) = 17 := (hT 0 _ rfl).1.trans kk17.2.2
  have T1 : TK N (q + 1) = 26 := (hT 1 _ rfl).1.trans kk26.2.2
  have T2 : TK N (q + 2) = 25 := (hT 2 _ rfl).1.trans kk25.2.2
  have T3 : TK N (q + 3) = 97 := (hT 3 _ rfl).1.trans (kn98 a7 h7T).2.2
  have F3 : fnd (L 3) (TV L (q + 3)) nb = nI a7 := by rw [(hT 3 _ rfl).2]; exact hm.2.1 _ h7
  have I3 : ¬ nI a7 = -1 := nm1 h7T
  have E := (PTe_ (fv := fv) (nb := nb) (nc := nc) (nf := nf) (dep := 0) g (PBo_ g (Si_not (q := (q + 1)) g T1 (by decide) (Si_dark (q := (q + 2)) g T2 T3 hnb F3 I3) (by decide)) (LBo_le (LBo_end (q := (q + 4)) g n27) (by decide : 0 ≤ 6)) (by decide)) (LTe_le (LTe_end (q := (q + 4)) g n28) (by decide : 0 ≤ 7)) (by decide))
  exact ⟨T0, PTe_le E (by decide : 7 ≤ 20)⟩
theorem te_3 (g : gQ h r pl N) (hm : NM L nb nc nf) (h5 : a5 < 130) (h6 : a6 < 130) (h7 : a7 < nb) (h8 : a8 < nc) (h9 : a9 < nf) (hT : Tat N L q [[119, 104, 101, 110], [100, 105, 114, 116], [40], dgt a6, [41], [62, 61], dgt a5]) (n42 : ¬ TK N (q + 7) = 42) (n47 : ¬ TK N (q + 7) = 47) (n43 : ¬ TK N (q + 7) = 43) (n45 : ¬ TK N (q + 7) = 45) (n27 : ¬ TK N (q + 7) = 27) (n28 : ¬ TK N (q + 7) = 28) : TK N q = 17 ∧ PTe fv h r pl N L nb nc nf 20 0 (q + 1) (q + 7) [(48, nI a6), (21, 0), (48, nI a5), (318, 0)] := by
  obtain ⟨hnb, hnc, hnf⟩ := hm.1
  have h7T : a7 < 10 := by omega
  have h8T : a8 < 10 := by omega
  have h9T : a9 < 10 := by omega
  have T0 : TK N (q) = 17 := (hT 0 _ rfl).1.trans kk17.2.2
  have T1 : TK N (q + 1) = 21 := (hT 1 _ rfl).1.trans kk21.2.2
  have T2 : TK N (q + 2) = 40 := (hT 2 _ rfl).1.trans ks40.2.2
  have T3 : TK N (q + 3) = 48 := (hT 3 _ rfl).1.trans (kd3 a6 h6).2.2
  have V3 : (TV L (q + 3)).toInt32 = nI a6 := (congrArg Int64.toInt32 (hT 3 _ rfl).2).trans (kd a6 h6).2.2.2.1
  have T4 : TK N (q + 4) = 41 := (hT 4 _ rfl).1.trans ks41.2.2
  have T5 : TK N (q + 5) = 318 := (hT 5 _ rfl).1.trans ks318.2.2
  have T6 : TK N (q + 6) = 48 := (hT 6 _ rfl).1.trans (kd3 a5 h5).2.2
  have V6 : (TV L (q + 6)).toInt32 = nI a5 := (congrArg Int64.toInt32 (hT 6 _ rfl).2).trans (kd a5 h5).2.2.2.1
  have E := (PTe_ (fv := fv) (nb := nb) (nc := nc) (nf := nf) (dep := 0) g (PBo_ g (Si_318 (q := (q + 1)) g (by rw [T1]; decide) (by rw [T1]; decide) (by rw [T1]; decide) (PSu_ g (PPr_ g (V_21 (q := (q + 1)) g T1 (B_ (q := (q + 2)) g T2 (by decide) (PSu_ g (PPr_ g (V_num (q := (q + 3)) g T3 V3) (LPr_le (LPr_end (q := (q + 4)) g (by rw [T4]; decide) (by rw [T4]; decide)) (by decide : 0 ≤ 4)) (by decide)) (LSu_le (LSu_end (q := (q + 4)) g (by rw [T4]; decide) (by rw [T4]; decide)) (by decide : 0 ≤ 5)) (by decide)) T4 (by decide)) (by decide)) (LPr_le (LPr_end (q := (q + 5)) g (by rw [T5]; decide) (by rw [T5]; decide)) (by decide : 0 ≤ 8)) (by decide)) (LSu_le (LSu_end (q := (q + 5)) g (by rw [T5]; decide) (by rw [T5]; decide)) (by decide : 0 ≤ 9)) (by decide)) T5 (PSu_le (PSu_ g (PPr_ g (V_num (q := (q + 6)) g T6 V6) (LPr_le (LPr_end (q := (q + 7)) g n42 n47) (by decide : 0 ≤ 4)) (by decide)) (LSu_le (LSu_end (q := (q + 7)) g n43 n45) (by decide : 0 ≤ 5)) (by decide)) (by decide : 5 ≤ 9)) (by decide)) (LBo_le (LBo_end (q := (q + 7)) g n27) (by decide : 0 ≤ 11)) (by decide)) (LTe_le (LTe_end (q := (q + 7)) g n28) (by decide : 0 ≤ 12)) (by decide))
  exact ⟨T0, PTe_le E (by decide : 12 ≤ 20)⟩
theorem te_4 (g : gQ h r pl N) (hm : NM L nb nc nf) (h5 : a5 < 130) (h6 : a6 < 130) (h7 : a7 < nb) (h8 : a8 < nc) (h9 : a9 < nf) (hT : Tat N L q [[119, 104, 101, 110], [119, 97, 116, 101, 114], 99 :: dgt a8, [61], [48], [111, 114], [97, 116], 99 :: dgt a8, [62], dgt a6]) (n42 : ¬ TK N (q + 10) = 42) (n47 : ¬ TK N (q + 10) = 47) (n43 : ¬ TK N (q + 10) = 43) (n45 : ¬ TK N (q + 10) = 45) (n27 : ¬ TK N (q + 10) = 27) (n28 : ¬ TK N (q + 10) = 28) : TK N q = 17 ∧ PTe fv h r pl N L nb nc nf 20 0 (q + 1) (q + 10) [(23, nI a8), (48, 0), (61, 0), (5, nI a8), (48, nI a6), (62, 0), (28, 0)] := by
  obtain ⟨hnb, hnc, hnf⟩ := hm.1
  have h7T : a7 < 10 := by omega
  have h8T : a8 < 10 := by omega
  have h9T : a9 < 10 := by omega
  have T0 : TK N (q) = 17 := (hT 0 _ rfl).1.trans kk17.2.2
  have T1 : TK N (q + 1) = 23 := (hT 1 _ rfl).1.trans kk23.2.2
  have T2 : TK N (q + 2) = 97 := (hT 2 _ rfl).1.trans (kn99 a8 h8T).2.2
  have F2 : fnd (L 5) (TV L (q + 2)) nc = nI a8 := by rw [(hT 2 _ rfl).2]; exact hm.2.2.1 _ h8
  have I2 : ¬ nI a8 = -1 := nm1 h8T
  have T3 : TK N (q + 3) = 61 := (hT 3 _ rfl).1.trans ks61.2.2
  have T4 : TK N (q + 4) = 48 := (hT 4 _ rfl).1.trans kl0.2.2
  have V4 : (TV L (q + 4)).toInt32 = 0 := (congrArg Int64.toInt32 (hT 4 _ rfl).2).trans kl0v
  have T5 : TK N (q + 5) = 28 := (hT 5 _ rfl).1.trans kk28.2.2
  have T6 : TK N (q + 6) = 5 := (hT 6 _ rfl).1.trans kk5.2.2
  have T7 : TK N (q + 7) = 97 := (hT 7 _ rfl).1.trans (kn99 a8 h8T).2.2
  have F7 : fnd (L 5) (TV L (q + 7)) nc = nI a8 := by rw [(hT 7 _ rfl).2]; exact hm.2.2.1 _ h8
  have I7 : ¬ nI a8 = -1 := nm1 h8T
  have T8 : TK N (q + 8) = 62 := (hT 8 _ rfl).1.trans ks62.2.2
  have T9 : TK N (q + 9) = 48 := (hT 9 _ rfl).1.trans (kd3 a6 h6).2.2
  have V9 : (TV L (q + 9)).toInt32 = nI a6 := (congrArg Int64.toInt32 (hT 9 _ rfl).2).trans (kd a6 h6).2.2.2.1
  have E := (PTe_ (fv := fv) (nb := nb) (nc := nc) (nf := nf) (dep := 0) g (PBo_ g (Si_61 (q := (q + 1)) g (by rw [T1]; decide) (by rw [T1]; decide) (by rw [T1]; decide) (PSu_ g (PPr_ g (V_23 (q := (q + 1)) g T1 T2 hnc F2 I2) (LPr_le (LPr_end (q := (q + 3)) g (by rw [T3]; decide) (by rw [T3]; decide)) (by decide : 0 ≤ 5)) (by decide)) (LSu_le (LSu_end (q := (q + 3)) g (by rw [T3]; decide) (by rw [T3]; decide)) (by decide : 0 ≤ 6)) (by decide)) T3 (PSu_le (PSu_ g (PPr_ g (V_num (q := (q + 4)) g T4 V4) (LPr_le (LPr_end (q := (q + 5)) g (by rw [T5]; decide) (by rw [T5]; decide)) (by decide : 0 ≤ 4)) (by decide)) (LSu_le (LSu_end (q := (q + 5)) g (by rw [T5]; decide) (by rw [T5]; decide)) (by decide : 0 ≤ 5)) (by decide)) (by decide : 5 ≤ 6)) (by decide)) (LBo_le (LBo_end (q := (q + 5)) g (by rw [T5]; decide)) (by decide : 0 ≤ 8)) (by decide)) (LTe_28 (q := (q + 5)) (i := 0) g (by decide) T5 (PBo_ g (Si_62 (q := (q + 6)) g (by rw [T6]; decide) (by rw [T6]; decide) (by rw [T6]; decide) (PSu_ g (PPr_ g (V_5 (q := (q + 6)) g T6 T7 hnc F7 I7) (LPr_le (LPr_end (q := (q + 8)) g (by rw [T8]; decide) (by rw [T8]; decide)) (by decide : 0 ≤ 5)) (by decide)) (LSu_le (LSu_end (q := (q + 8)) g (by rw [T8]; decide) (by rw [T8]; decide)) (by decide : 0 ≤ 6)) (by decide)) T8 (PSu_le (PSu_ g (PPr_ g (V_num (q := (q + 9)) g T9 V9) (LPr_le (LPr_end (q := (q + 10)) g n42 n47) (by decide : 0 ≤ 4)) (by decide)) (LSu_le (LSu_end (q := (q + 10)) g n43 n45) (by decide : 0 ≤ 5)) (by decide)) (by decide : 5 ≤ 6)) (by decide)) (LBo_le (LBo_end (q := (q + 10)) g n27) (by decide : 0 ≤ 8)) (by decide)) (LTe_le (LTe_end (q := (q + 10)) g n28) (by decide : 0 ≤ 9)) (by decide)) (by decide))
  exact ⟨T0, PTe_le E (by decide : 9 ≤ 20)⟩
theorem te_5 (g : gQ h r pl N) (hm : NM L nb nc nf) (h5 : a5 < 130) (h6 : a6 < 130) (h7 : a7 < nb) (h8 : a8 < nc) (h9 : a9 < nf) (hT : Tat N L q [[119, 104, 101, 110], [91], [108, 105, 103, 104, 116], [60], dgt a5, [42], [51, 48], [97, 110, 100], [119, 105, 110, 100], [62, 61], [48], [93], [111, 114], [110, 111, 116], [104, 111, 117, 114], [61], dgt a5]) (n42 : ¬ TK N (q + 17) = 42) (n47 : ¬ TK N (q + 17) = 47) (n43 : ¬ TK N (q + 17) = 43) (n45 : ¬ TK N (q + 17) = 45) (n27 : ¬ TK N (q + 17) = 27) (n28 : ¬ TK N (q + 17) = 28) : TK N q = 17 ∧ PTe fv h r pl N L nb nc nf 20 0 (q + 1) (q + 17) [(20, 0), (48, nI a5), (48, 30), (42, 0), (60, 0), (19, 0), (48, 0), (318, 0), (27, 0), (18, 0), (48, nI a5), (61, 0), (26, 0), (28, 0)] := by
  obtain ⟨hnb, hnc, hnf⟩ := hm.1
  have h7T : a7 < 10 := by omega
  have h8T : a8 < 10 := by omega
  have h9T : a9 < 10 := by omega
  have T0 : TK N (q) = 17 := (hT 0 _ rfl).1.trans kk17.2.2
  have T1 : TK N (q + 1) = 91 := (hT 1 _ rfl).1.trans ks91.2.2
  have T2 : TK N (q + 2) = 20 := (hT 2 _ rfl).1.trans kk20.2.2
  have T3 : TK N (q + 3) = 60 := (hT 3 _ rfl).1.trans ks60.2.2
  have T4 : TK N (q + 4) = 48 := (hT 4 _ rfl).1.trans (kd3 a5 h5).2.2
  have V4 : (TV L (q + 4)).toInt32 = nI a5 := (congrArg Int64.toInt32 (hT 4 _ rfl).2).trans (kd a5 h5).2.2.2.1
  have T5 : TK N (q + 5) = 42 := (hT 5 _ rfl).1.trans ks42.2.2
  have T6 : TK N (q + 6) = 48 := (hT 6 _ rfl).1.trans kl30.2.2
  have V6 : (TV L (q + 6)).toInt32 = 30 := (congrArg Int64.toInt32 (hT 6 _ rfl).2).trans kl30v
  have T7 : TK N (q + 7) = 27 := (hT 7 _ rfl).1.trans kk27.2.2
  have T8 : TK N (q + 8) = 19 := (hT 8 _ rfl).1.trans kk19.2.2
  have T9 : TK N (q + 9) = 318 := (hT 9 _ rfl).1.trans ks318.2.2
  have T10 : TK N (q + 10) = 48 := (hT 10 _ rfl).1.trans kl0.2.2
  have V10 : (TV L (q + 10)).toInt32 = 0 := (congrArg Int64.toInt32 (hT 10 _ rfl).2).trans kl0v
  have T11 : TK N (q + 11) = 93 := (hT 11 _ rfl).1.trans ks93.2.2
  have T12 : TK N (q + 12) = 28 := (hT 12 _ rfl).1.trans kk28.2.2
  have T13 : TK N (q + 13) = 26 := (hT 13 _ rfl).1.trans kk26.2.2
  have T14 : TK N (q + 14) = 18 := (hT 14 _ rfl).1.trans kk18.2.2
  have T15 : TK N (q + 15) = 61 := (hT 15 _ rfl).1.trans ks61.2.2
  have T16 : TK N (q + 16) = 48 := (hT 16 _ rfl).1.trans (kd3 a5 h5).2.2
  have V16 : (TV L (q + 16)).toInt32 = nI a5 := (congrArg Int64.toInt32 (hT 16 _ rfl).2).trans (kd a5 h5).2.2.2.1
  have E := (PTe_ (fv := fv) (nb := nb) (nc := nc) (nf := nf) (dep := 0) g (PBo_ g (Si_br (q := (q + 1)) g T1 (by decide) (PTe_ g (PBo_ g (Si_60 (q := (q + 2)) g (by rw [T2]; decide) (by rw [T2]; decide) (by rw [T2]; decide) (PSu_ g (PPr_ g (V_20 (q := (q + 2)) g T2) (LPr_le (LPr_end (q := (q + 3)) g (by rw [T3]; decide) (by rw [T3]; decide)) (by decide : 0 ≤ 4)) (by decide)) (LSu_le (LSu_end (q := (q + 3)) g (by rw [T3]; decide) (by rw [T3]; decide)) (by decide : 0 ≤ 5)) (by decide)) T3 (PSu_ g (PPr_ g (V_num (q := (q + 4)) g T4 V4) (LPr_42 (q := (q + 5)) (i := 0) g (by decide) T5 (V_num (q := (q + 6)) g T6 V6) (LPr_le (LPr_end (q := (q + 7)) g (by rw [T7]; decide) (by rw [T7]; decide)) (by decide : 0 ≤ 4)) (by decide)) (by decide)) (LSu_le (LSu_end (q := (q + 7)) g (by rw [T7]; decide) (by rw [T7]; decide)) (by decide : 0 ≤ 5)) (by decide)) (by decide)) (LBo_27 (q := (q + 7)) (i := 0) g (by decide) T7 (Si_318 (q := (q + 8)) g (by rw [T8]; decide) (by rw [T8]; decide) (by rw [T8]; decide) (PSu_ g (PPr_ g (V_19 (q := (q + 8)) g T8) (LPr_le (LPr_end (q := (q + 9)) g (by rw [T9]; decide) (by rw [T9]; decide)) (by decide : 0 ≤ 4)) (by decide)) (LSu_le (LSu_end (q := (q + 9)) g (by rw [T9]; decide) (by rw [T9]; decide)) (by decide : 0 ≤ 5)) (by decide)) T9 (PSu_ g (PPr_ g (V_num (q := (q + 10)) g T10 V10) (LPr_le (LPr_end (q := (q + 11)) g (by rw [T11]; decide) (by rw [T11]; decide)) (by decide : 0 ≤ 4)) (by decide)) (LSu_le (LSu_end (q := (q + 11)) g (by rw [T11]; decide) (by rw [T11]; decide)) (by decide : 0 ≤ 5)) (by decide)) (by decide)) (LBo_le (LBo_end (q := (q + 11)) g (by rw [T11]; decide)) (by decide : 0 ≤ 7)) (by decide)) (by decide)) (LTe_le (LTe_end (q := (q + 11)) g (by rw [T11]; decide)) (by decide : 0 ≤ 8)) (by decide)) T11 (by decide)) (LBo_le (LBo_end (q := (q + 12)) g (by rw [T12]; decide)) (by decide : 0 ≤ 10)) (by decide)) (LTe_le (LTe_28 (q := (q + 12)) (i := 0) g (by decide) T12 (PBo_ g (Si_not (q := (q + 13)) g T13 (by decide) (Si_61 (q := (q + 14)) g (by rw [T14]; decide) (by rw [T14]; decide) (by rw [T14]; decide) (PSu_ g (PPr_ g (V_18 (q := (q + 14)) g T14) (LPr_le (LPr_end (q := (q + 15)) g (by rw [T15]; decide) (by rw [T15]; decide)) (by decide : 0 ≤ 4)) (by decide)) (LSu_le (LSu_end (q := (q + 15)) g (by rw [T15]; decide) (by rw [T15]; decide)) (by decide : 0 ≤ 5)) (by decide)) T15 (PSu_ g (PPr_ g (V_num (q := (q + 16)) g T16 V16) (LPr_le (LPr_end (q := (q + 17)) g n42 n47) (by decide : 0 ≤ 4)) (by decide)) (LSu_le (LSu_end (q := (q + 17)) g n43 n45) (by decide : 0 ≤ 5)) (by decide)) (by decide)) (by decide)) (LBo_le (LBo_end (q := (q + 17)) g n27) (by decide : 0 ≤ 8)) (by decide)) (LTe_le (LTe_end (q := (q + 17)) g n28) (by decide : 0 ≤ 9)) (by decide)) (by decide : 9 ≤ 11)) (by decide))
  exact ⟨T0, PTe_le E (by decide : 11 ≤ 20)⟩
theorem te_6 (g : gQ h r pl N) (hm : NM L nb nc nf) (h5 : a5 < 130) (h6 : a6 < 130) (h7 : a7 < nb) (h8 : a8 < nc) (h9 : a9 < nf) (hT : Tat N L q [[119, 104, 101, 110], [99, 114, 97, 99, 107], [40], dgt a6, [41], [42], [50], [62], dgt a5, [45], [112, 101, 114, 99, 104], 102 :: dgt a9]) (n42 : ¬ TK N (q + 12) = 42) (n47 : ¬ TK N (q + 12) = 47) (n43 : ¬ TK N (q + 12) = 43) (n45 : ¬ TK N (q + 12) = 45) (n27 : ¬ TK N (q + 12) = 27) (n28 : ¬ TK N (q + 12) = 28) : TK N q = 17 ∧ PTe fv h r pl N L nb nc nf 20 0 (q + 1) (q + 12) [(48, nI a6), (22, 0), (48, 2), (42, 0), (48, nI a5), (24, nI a9), (45, 0), (62, 0)] := by
  obtain ⟨hnb, hnc, hnf⟩ := hm.1
  have h7T : a7 < 10 := by omega
  have h8T : a8 < 10 := by omega
  have h9T : a9 < 10 := by omega
  have T0 : TK N (q) = 17 := (hT 0 _ rfl).1.trans kk17.2.2
  have T1 : TK N (q + 1) = 22 := (hT 1 _ rfl).1.trans kk22.2.2
  have T2 : TK N (q + 2) = 40 := (hT 2 _ rfl).1.trans ks40.2.2
  have T3 : TK N (q + 3) = 48 := (hT 3 _ rfl).1.trans (kd3 a6 h6).2.2
  have V3 : (TV L (q + 3)).toInt32 = nI a6 := (congrArg Int64.toInt32 (hT 3 _ rfl).2).trans (kd a6 h6).2.2.2.1
  have T4 : TK N (q + 4) = 41 := (hT 4 _ rfl).1.trans ks41.2.2
  have T5 : TK N (q + 5) = 42 := (hT 5 _ rfl).1.trans ks42.2.2
  have T6 : TK N (q + 6) = 48 := (hT 6 _ rfl).1.trans kl2.2.2
  have V6 : (TV L (q + 6)).toInt32 = 2 := (congrArg Int64.toInt32 (hT 6 _ rfl).2).trans kl2v
  have T7 : TK N (q + 7) = 62 := (hT 7 _ rfl).1.trans ks62.2.2
  have T8 : TK N (q + 8) = 48 := (hT 8 _ rfl).1.trans (kd3 a5 h5).2.2
  have V8 : (TV L (q + 8)).toInt32 = nI a5 := (congrArg Int64.toInt32 (hT 8 _ rfl).2).trans (kd a5 h5).2.2.2.1
  have T9 : TK N (q + 9) = 45 := (hT 9 _ rfl).1.trans ks45.2.2
  have T10 : TK N (q + 10) = 24 := (hT 10 _ rfl).1.trans kk24.2.2
  have T11 : TK N (q + 11) = 97 := (hT 11 _ rfl).1.trans (kn102 a9 h9T).2.2
  have F11 : fnd (L 6) (TV L (q + 11)) nf = nI a9 := by rw [(hT 11 _ rfl).2]; exact hm.2.2.2 _ h9
  have I11 : ¬ nI a9 = -1 := nm1 h9T
  have E := (PTe_ (fv := fv) (nb := nb) (nc := nc) (nf := nf) (dep := 0) g (PBo_ g (Si_62 (q := (q + 1)) g (by rw [T1]; decide) (by rw [T1]; decide) (by rw [T1]; decide) (PSu_ g (PPr_ g (V_22 (q := (q + 1)) g T1 (B_ (q := (q + 2)) g T2 (by decide) (PSu_ g (PPr_ g (V_num (q := (q + 3)) g T3 V3) (LPr_le (LPr_end (q := (q + 4)) g (by rw [T4]; decide) (by rw [T4]; decide)) (by decide : 0 ≤ 4)) (by decide)) (LSu_le (LSu_end (q := (q + 4)) g (by rw [T4]; decide) (by rw [T4]; decide)) (by decide : 0 ≤ 5)) (by decide)) T4 (by decide)) (by decide)) (LPr_le (LPr_42 (q := (q + 5)) (i := 0) g (by decide) T5 (V_num (q := (q + 6)) g T6 V6) (LPr_le (LPr_end (q := (q + 7)) g (by rw [T7]; decide) (by rw [T7]; decide)) (by decide : 0 ≤ 4)) (by decide)) (by decide : 4 ≤ 8)) (by decide)) (LSu_le (LSu_end (q := (q + 7)) g (by rw [T7]; decide) (by rw [T7]; decide)) (by decide : 0 ≤ 9)) (by decide)) T7 (PSu_le (PSu_ g (PPr_le (PPr_ g (V_num (q := (q + 8)) g T8 V8) (LPr_le (LPr_end (q := (q + 9)) g (by rw [T9]; decide) (by rw [T9]; decide)) (by decide : 0 ≤ 4)) (by decide)) (by decide : 4 ≤ 5)) (LSu_45 (q := (q + 9)) (i := 0) g (by decide) T9 (PPr_ g (V_24 (q := (q + 10)) g T10 T11 hnf F11 I11) (LPr_le (LPr_end (q := (q + 12)) g n42 n47) (by decide : 0 ≤ 5)) (by decide)) (LSu_le (LSu_end (q := (q + 12)) g n43 n45) (by decide : 0 ≤ 6)) (by decide)) (by decide)) (by decide : 6 ≤ 9)) (by decide)) (LBo_le (LBo_end (q := (q + 12)) g n27) (by decide : 0 ≤ 11)) (by decide)) (LTe_le (LTe_end (q := (q + 12)) g n28) (by decide : 0 ≤ 12)) (by decide))
  exact ⟨T0, PTe_le E (by decide : 12 ≤ 20)⟩
theorem te_7 (g : gQ h r pl N) (hm : NM L nb nc nf) (h5 : a5 < 130) (h6 : a6 < 130) (h7 : a7 < nb) (h8 : a8 < nc) (h9 : a9 < nf) (hT : Tat N L q [[119, 104, 101, 110], dgt a5, [47], [50], [42], [50], [61], dgt a5]) (n42 : ¬ TK N (q + 8) = 42) (n47 : ¬ TK N (q + 8) = 47) (n43 : ¬ TK N (q + 8) = 43) (n45 : ¬ TK N (q + 8) = 45) (n27 : ¬ TK N (q + 8) = 27) (n28 : ¬ TK N (q + 8) = 28) : TK N q = 17 ∧ PTe fv h r pl N L nb nc nf 20 0 (q + 1) (q + 8) [(48, nI a5), (48, 2), (47, 0), (48, 2), (42, 0), (48, nI a5), (61, 0)] := by
  obtain ⟨hnb, hnc, hnf⟩ := hm.1
  have h7T : a7 < 10 := by omega
  have h8T : a8 < 10 := by omega
  have h9T : a9 < 10 := by omega
  have T0 : TK N (q) = 17 := (hT 0 _ rfl).1.trans kk17.2.2
  have T1 : TK N (q + 1) = 48 := (hT 1 _ rfl).1.trans (kd3 a5 h5).2.2
  have V1 : (TV L (q + 1)).toInt32 = nI a5 := (congrArg Int64.toInt32 (hT 1 _ rfl).2).trans (kd a5 h5).2.2.2.1
  have T2 : TK N (q + 2) = 47 := (hT 2 _ rfl).1.trans ks47.2.2
  have T3 : TK N (q + 3) = 48 := (hT 3 _ rfl).1.trans kl2.2.2
  have V3 : (TV L (q + 3)).toInt32 = 2 := (congrArg Int64.toInt32 (hT 3 _ rfl).2).trans kl2v
  have T4 : TK N (q + 4) = 42 := (hT 4 _ rfl).1.trans ks42.2.2
  have T5 : TK N (q + 5) = 48 := (hT 5 _ rfl).1.trans kl2.2.2
  have V5 : (TV L (q + 5)).toInt32 = 2 := (congrArg Int64.toInt32 (hT 5 _ rfl).2).trans kl2v
  have T6 : TK N (q + 6) = 61 := (hT 6 _ rfl).1.trans ks61.2.2
  have T7 : TK N (q + 7) = 48 := (hT 7 _ rfl).1.trans (kd3 a5 h5).2.2
  have V7 : (TV L (q + 7)).toInt32 = nI a5 := (congrArg Int64.toInt32 (hT 7 _ rfl).2).trans (kd a5 h5).2.2.2.1
  have E := (PTe_ (fv := fv) (nb := nb) (nc := nc) (nf := nf) (dep := 0) g (PBo_ g (Si_61 (q := (q + 1)) g (by rw [T1]; decide) (by rw [T1]; decide) (by rw [T1]; decide) (PSu_ g (PPr_ g (V_num (q := (q + 1)) g T1 V1) (LPr_47 (q := (q + 2)) (i := 0) g (by decide) T2 (V_num (q := (q + 3)) g T3 V3) (LPr_42 (q := (q + 4)) (i := 1) g (by decide) T4 (V_num (q := (q + 5)) g T5 V5) (LPr_le (LPr_end (q := (q + 6)) g (by rw [T6]; decide) (by rw [T6]; decide)) (by decide : 0 ≤ 4)) (by decide)) (by decide)) (by decide)) (LSu_le (LSu_end (q := (q + 6)) g (by rw [T6]; decide) (by rw [T6]; decide)) (by decide : 0 ≤ 5)) (by decide)) T6 (PSu_ g (PPr_ g (V_num (q := (q + 7)) g T7 V7) (LPr_le (LPr_end (q := (q + 8)) g n42 n47) (by decide : 0 ≤ 4)) (by decide)) (LSu_le (LSu_end (q := (q + 8)) g n43 n45) (by decide : 0 ≤ 5)) (by decide)) (by decide)) (LBo_le (LBo_end (q := (q + 8)) g n27) (by decide : 0 ≤ 7)) (by decide)) (LTe_le (LTe_end (q := (q + 8)) g n28) (by decide : 0 ≤ 8)) (by decide))
  exact ⟨T0, PTe_le E (by decide : 8 ≤ 20)⟩
/-- a sum -/
theorem su_all (g : gQ h r pl N) (hm : NM L nb nc nf) (h2 : a2 < 6) (h3 : a3 < 130) (h6 : a6 < 130) (h8 : a8 < nc) (h9 : a9 < nf) (hT : Tat N L q (toks (smI a2 a3 a6 a8 a9))) (hq : q1 = q + (toks (smI a2 a3 a6 a8 a9)).length) (hw : TK N q1 = 17 ∨ TK N q1 = 59) : PSu fv h r pl N L nb nc nf 20 0 q q1 (cS a2 a3 a6 a8 a9) := by
  have n42 : ¬ TK N q1 = 42 := by rcases hw with hw | hw <;> rw [hw] <;> decide
  have n47 : ¬ TK N q1 = 47 := by rcases hw with hw | hw <;> rw [hw] <;> decide
  have n43 : ¬ TK N q1 = 43 := by rcases hw with hw | hw <;> rw [hw] <;> decide
  have n45 : ¬ TK N q1 = 45 := by rcases hw with hw | hw <;> rw [hw] <;> decide
  subst hq
  by_cases c0 : a2 = 0
  · subst c0
    exact su_0 g hm h3 h6 h8 h9 hT n42 n47 n43 n45
  by_cases c1 : a2 = 1
  · subst c1
    exact su_1 g hm h3 h6 h8 h9 hT n42 n47 n43 n45
  by_cases c2 : a2 = 2
  · subst c2
    exact su_2 g hm h3 h6 h8 h9 hT n42 n47 n43 n45
  by_cases c3 : a2 = 3
  · subst c3
    exact su_3 g hm h3 h6 h8 h9 hT n42 n47 n43 n45
  by_cases c4 : a2 = 4
  · subst c4
    exact su_4 g hm h3 h6 h8 h9 hT n42 n47 n43 n45
  by_cases c5 : a2 = 5
  · subst c5
    exact su_5 g hm h3 h6 h8 h9 hT n42 n47 n43 n45
  exfalso
  omega
/-- a test -/
theorem te_all (g : gQ h r pl N) (hm : NM L nb nc nf) (h4 : a4 < 8) (h5 : a5 < 130) (h6 : a6 < 130) (h7 : a7 < nb) (h8 : a8 < nc) (h9 : a9 < nf) (hT : Tat N L q (toks (teI a4 a5 a6 a7 a8 a9))) (hq : q1 = q + (toks (teI a4 a5 a6 a7 a8 a9)).length) (hw : TK N q1 = 59) : TK N q = 17 ∧ PTe fv h r pl N L nb nc nf 20 0 (q + 1) q1 (cH a4 a5 a6 a7 a8 a9) := by
  have n42 : ¬ TK N q1 = 42 := by rw [hw]; decide
  have n47 : ¬ TK N q1 = 47 := by rw [hw]; decide
  have n43 : ¬ TK N q1 = 43 := by rw [hw]; decide
  have n45 : ¬ TK N q1 = 45 := by rw [hw]; decide
  have n27 : ¬ TK N q1 = 27 := by rw [hw]; decide
  have n28 : ¬ TK N q1 = 28 := by rw [hw]; decide
  subst hq
  by_cases c0 : a4 = 0
  · subst c0
    exact te_0 g hm h5 h6 h7 h8 h9 hT n42 n47 n43 n45 n27 n28
  by_cases c1 : a4 = 1
  · subst c1
    exact te_1 g hm h5 h6 h7 h8 h9 hT n42 n47 n43 n45 n27 n28
  by_cases c2 : a4 = 2
  · subst c2
    exact te_2 g hm h5 h6 h7 h8 h9 hT n42 n47 n43 n45 n27 n28
  by_cases c3 : a4 = 3
  · subst c3
    exact te_3 g hm h5 h6 h7 h8 h9 hT n42 n47 n43 n45 n27 n28
  by_cases c4 : a4 = 4
  · subst c4
    exact te_4 g hm h5 h6 h7 h8 h9 hT n42 n47 n43 n45 n27 n28
  by_cases c5 : a4 = 5
  · subst c5
    exact te_5 g hm h5 h6 h7 h8 h9 hT n42 n47 n43 n45 n27 n28
  by_cases c6 : a4 = 6
  · subst c6
    exact te_6 g hm h5 h6 h7 h8 h9 hT n42 n47 n43 n45 n27 n28
  by_cases c7 : a4 = 7
  · subst c7
    exact te_7 g hm h5 h6 h7 h8 h9 hT n42 n47 n43 n45 n27 n28
  exfalso
  omega
end RD4
