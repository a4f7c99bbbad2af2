/-! THE START: taught up to teach (written by gen999987.py). -/
section ST16
variable {fv : Value} {d : Nat} {h : ix_H} {tp b rd t t2 p n k i j m q w : Nat} {T F : Nat → Int32} {e v lea : Int32} {l : List Int32} {l3 l4 l5 : Option Value}
theorem HT_f (ht : tp + 2 ≤ h.length) : (wT (h ++ [ia 5 F]) tp T e)[h.length]? = some (ia 5 F) := (wT_o (Or.inr ht)).trans get_end
theorem HT_r (ht : tp + 2 ≤ h.length) (hk : k < 5) : rA (wT (h ++ [ia 5 F]) tp T e) h.length (nI k) = some (.int (F k)) := by
  rw [rA_of (HT_f ht) (in_big hk (by decide)), nI_clamp (by omega)]
theorem HT_w (h98 : 98 ≤ tp) (ht : tp + 2 ≤ h.length) (hk : k < 5) : wA (ixP fv) (wT (h ++ [ia 5 F]) tp T e) h.length (nI k) v = some (wT (h ++ [ia 5 (upd F k v)]) tp T e) := by
  rw [wA_of (HT_f ht) (by omega) (in_big hk (by decide)), nI_clamp (by omega)]
  unfold wT
  rw [ov_setO (Or.inr (by show tp + 2 ≤ _; exact ht)), set_end]
  rfl
/-- the text is there all along -/
def tq (h : ix_H) (tp q w : Nat) (l : List Int32) : Prop := isStr h q w l ∧ (q < tp ∨ tp + 2 ≤ q) ∧ (w < tp ∨ tp + 2 ≤ w)
theorem tq_h (g : tq h tp q w l) : isStr (wT (h ++ [ia 5 F]) tp T e) q w l := by
  obtain ⟨⟨a, ys, e1, e2, e3⟩, h1, h2⟩ := g
  exact ⟨a, ys, (wT_o h1).trans (get_old e1), (wT_o h2).trans (get_old e2), e3⟩
theorem tq_i (g : tq h tp q w l) : ix_is (ixP fv) (wT (h ++ [ia 5 F]) tp T e) q "java/lang/String" = true := by
  obtain ⟨a, ys, e1, e2, e3⟩ := tq_h (F := F) (T := T) (e := e) g
  exact isSt e1
theorem tq_l (g : tq h tp q w l) : xe (ixP fv) (d + 1) 149 0 [some (.ref (q))] [] (wT (h ++ [ia 5 F]) tp T e) = some (.inl (some (.int (nI l.length))), (wT (h ++ [ia 5 F]) tp T e)) := by
  obtain ⟨a, ys, e1, e2, e3⟩ := tq_h (F := F) (T := T) (e := e) g
  exact m149 e1 e2
theorem tq_c (g : tq h tp q w l) (hfv : fv = .null ∨ fv = .ref 97) (ha : asc l) (hl : l.length ≤ 2000) (hi : i < l.length) : xe (ixP fv) (d + 3) 150 0 [some (.ref (q)), some (.int (nI i))] [] (wT (h ++ [ia 5 F]) tp T e) = some (.inl (some (.int (nI (byI l i)))), (wT (h ++ [ia 5 F]) tp T e)) := m150 hfv (tq_h g) (byI_l ha hi) (byI_b ha) (by omega)
/-- four signs into one number -/
theorem tau_i (g : tq h tp q w l) (hfv : fv = .null ∨ fv = .ref 97) (ha : asc l) (hl : l.length ≤ 2000) (h98 : 98 ≤ tp) (ht : tp + 2 ≤ h.length) (hk : k < 5) (hp : p ≤ 4000) : ∀ (r m : Nat) (F : Nat → Int32), m + r = 4 → F k = nI (vb l (p + 4 * k) m) → ∃ F', F' k = nI (vb l (p + 4 * k) 4) ∧ (∀ j, j ≠ k → F' j = F j) ∧ xe (ixP fv) (d + 8) 169 42 [some (.ref (b)), some (.ref (q)), some (.ref (h.length)), some (.int (nI p)), some (.int (nI k)), some (.int (nI (p + 4 * k + m)))] [] (wT (h ++ [ia 5 F]) tp T e) = xe (ixP fv) (d + 8) 169 93 [some (.ref (b)), some (.ref (q)), some (.ref (h.length)), some (.int (nI p)), some (.int (nI k)), some (.int (nI (p + 4 * k + 4)))] [] (wT (h ++ [ia 5 F']) tp T e)
  | 0, m, F, em, hF => by
    have : m = 4 := by omega
    subst this
    have a1 : 4 * nI k = nI (4 * k) := pk_mul 4 k
    have a2 : nI p + nI (4 * k) = nI (p + 4 * k) := nI_add _ _
    have a3 : nI (p + 4 * k) + 4 = nI (p + 4 * k + 4) := nI_add _ 4
    have c1 : nI (p + 4 * k + 4) ≤ nI (p + 4 * k + 4) := Int32.le_refl _
    refine ⟨F, hF, fun _ _ => rfl, ?_⟩
    simp only [q169_42 (x := nI (p + 4 * k + 4)), q169_44, q169_45, q169_46, q169_48, q169_49, q169_50, q169_51, q169_52, i10, eq_self, ft0, ft1, b01_ft, k1r, k1i, xG_some, xH_some, xC_v, xC_n, if_true, if_false, not_true_eq_false, not_false_eq_true, ix_st, ix_st2, List.getElem?_cons_succ, List.getElem?_cons_zero, List.set_cons_succ, List.set_cons_zero, Value.category, List.map_cons, List.map_nil, List.sum_cons, List.sum_nil, Nat.reduceAdd, Nat.reduceLeDiff, Nat.reduceEqDiff, Nat.zero_le, reduceCtorEq, ↓reduceIte, eq_self, xit, a1, a2, a3, c1]
  | r + 1, m, F, em, hF => by
    have a1 : 4 * nI k = nI (4 * k) := pk_mul 4 k
    have a2 : nI p + nI (4 * k) = nI (p + 4 * k) := nI_add _ _
    have a3 : nI (p + 4 * k) + 4 = nI (p + 4 * k + 4) := nI_add _ 4
    have a4 : nI (p + 4 * k + m) + 1 = nI (p + 4 * k + (m + 1)) := nI_add _ 1
    have c1 : ¬ nI (p + 4 * k + 4) ≤ nI (p + 4 * k + m) := nI_ge (by omega) (by omega)
    have eR := HT_r (F := F) (T := T) (e := e) ht hk
    rw [hF] at eR
    have hb := byI_b (i := p + 4 * k + m) ha
    have hv := vb_lt (p := p + 4 * k) ha m (by omega)
    have es : nI (vb l (p + 4 * k) m) <<< (8 &&& 31) ||| nI (byI l (p + 4 * k + m)) = nI (vb l (p + 4 * k) (m + 1)) := sh_or hv (by omega)
    have eW := HT_w (fv := fv) (F := F) (T := T) (e := e) (v := nI (vb l (p + 4 * k) (m + 1))) h98 ht hk
    have eL := fun d => tq_l (fv := fv) (d := d) (F := F) (T := T) (e := e) g
    obtain ⟨F', f1, f2, ih⟩ := tau_i g hfv ha hl h98 ht hk hp r (m + 1) (upd F k (nI (vb l (p + 4 * k) (m + 1)))) (by omega) upd_eq
    refine ⟨F', f1, fun j hj => (f2 j hj).trans (upd_ne hj), Eq.trans ?_ ih⟩
    by_cases c2 : p + 4 * k + m < l.length
    · have c3 : ¬ nI l.length ≤ nI (p + 4 * k + m) := nI_ge c2 (by omega)
      have eC := fun d => tq_c (fv := fv) (d := d) (F := F) (T := T) (e := e) g hfv ha hl c2
      simp only [q169_42 (x := nI (p + 4 * k + m)), q169_44, q169_45, q169_46, q169_48, q169_49, q169_50, q169_51, q169_52, q169_55, q169_56, q169_58, q169_59, q169_61, q169_62, q169_64, q169_65, q169_67, q169_68, q169_71, q169_74, q169_75, q169_77, q169_80, q169_83, q169_85, q169_86, q169_87, q169_90, i10, eq_self, ft0, ft1, b01_ft, k1r, k1i, xG_some, xH_some, xC_v, xC_n, if_true, if_false, not_true_eq_false, not_false_eq_true, ix_st, ix_st2, List.getElem?_cons_succ, List.getElem?_cons_zero, List.set_cons_succ, List.set_cons_zero, Value.category, List.map_cons, List.map_nil, List.sum_cons, List.sum_nil, Nat.reduceAdd, Nat.reduceLeDiff, Nat.reduceEqDiff, Nat.zero_le, reduceCtorEq, ↓reduceIte, eq_self, xit, a1, a2, a3, a4, c1, c3, eR, eL, eC, es, eW, tq_i g]
    · have c3 : nI l.length ≤ nI (p + 4 * k + m) := nI_le (by omega) (by omega)
      have eb : byI l (p + 4 * k + m) = 32 := if_neg c2
      rw [eb] at es
      have es : nI (vb l (p + 4 * k) m) <<< (8 &&& 31) ||| 32 = nI (vb l (p + 4 * k) (m + 1)) := es
      simp only [q169_42 (x := nI (p + 4 * k + m)), q169_44, q169_45, q169_46, q169_48, q169_49, q169_50, q169_51, q169_52, q169_55, q169_56, q169_58, q169_59, q169_61, q169_62, q169_64, q169_65, q169_67, q169_68, q169_71, q169_74, q169_75, q169_77, q169_80, q169_83, q169_85, q169_86, q169_87, q169_90, i10, eq_self, ft0, ft1, b01_ft, k1r, k1i, xG_some, xH_some, xC_v, xC_n, if_true, if_false, not_true_eq_false, not_false_eq_true, ix_st, ix_st2, List.getElem?_cons_succ, List.getElem?_cons_zero, List.set_cons_succ, List.set_cons_zero, Value.category, List.map_cons, List.map_nil, List.sum_cons, List.sum_nil, Nat.reduceAdd, Nat.reduceLeDiff, Nat.reduceEqDiff, Nat.zero_le, reduceCtorEq, ↓reduceIte, eq_self, xit, a1, a2, a3, a4, c1, c3, eR, eL, es, eW, tq_i g]
/-- five numbers -/
theorem tau_k (g : tq h tp q w l) (hfv : fv = .null ∨ fv = .ref 97) (ha : asc l) (hl : l.length ≤ 2000) (h98 : 98 ≤ tp) (ht : tp + 2 ≤ h.length) (hp : p ≤ 4000) : ∀ (r k : Nat) (F : Nat → Int32) (l5 : Option Value), k + r = 5 → (∀ j, j < k → F j = nI (vb l (p + 4 * j) 4)) → ∃ F' l5', (∀ j, j < 5 → F' j = nI (vb l (p + 4 * j) 4)) ∧ xe (ixP fv) (d + 8) 169 23 [some (.ref (b)), some (.ref (q)), some (.ref (h.length)), some (.int (nI p)), some (.int (nI k)), l5] [] (wT (h ++ [ia 5 F]) tp T e) = xe (ixP fv) (d + 8) 169 99 [some (.ref (b)), some (.ref (q)), some (.ref (h.length)), some (.int (nI p)), some (.int (nI 5)), l5'] [] (wT (h ++ [ia 5 F']) tp T e)
  | 0, k, F, l5, ek, hF => by
    have : k = 5 := by omega
    subst this
    have c1 : (5 : Int32) ≤ nI 5 := by decide
    refine ⟨F, l5, hF, ?_⟩
    simp only [q169_23 (x := nI 5), q169_25, q169_26, i10, eq_self, ft0, ft1, b01_ft, k1r, k1i, xG_some, xH_some, xC_v, xC_n, if_true, if_false, not_true_eq_false, not_false_eq_true, ix_st, ix_st2, List.getElem?_cons_succ, List.getElem?_cons_zero, List.set_cons_succ, List.set_cons_zero, Value.category, List.map_cons, List.map_nil, List.sum_cons, List.sum_nil, Nat.reduceAdd, Nat.reduceLeDiff, Nat.reduceEqDiff, Nat.zero_le, reduceCtorEq, ↓reduceIte, eq_self, xit, c1]
  | r + 1, k, F, l5, ek, hF => by
    have hk : k < 5 := by omega
    have c1 : ¬ (5 : Int32) ≤ nI k := show ¬ nI 5 ≤ nI k from nI_ge hk (by omega)
    have a1 : 4 * nI k = nI (4 * k) := pk_mul 4 k
    have a2 : nI p + nI (4 * k) = nI (p + 4 * k) := nI_add _ _
    have eW := HT_w (fv := fv) (F := F) (T := T) (e := e) (v := 0) h98 ht hk
    have s1 : xe (ixP fv) (d + 8) 169 23 [some (.ref (b)), some (.ref (q)), some (.ref (h.length)), some (.int (nI p)), some (.int (nI k)), l5] [] (wT (h ++ [ia 5 F]) tp T e) = xe (ixP fv) (d + 8) 169 42 [some (.ref (b)), some (.ref (q)), some (.ref (h.length)), some (.int (nI p)), some (.int (nI k)), some (.int (nI (p + 4 * k + 0)))] [] (wT (h ++ [ia 5 (upd F k 0)]) tp T e) := by
      simp only [q169_23 (x := nI k), q169_25, q169_26, q169_29, q169_30, q169_32, q169_33, q169_34, q169_35, q169_36, q169_38, q169_39, q169_40, i10, eq_self, ft0, ft1, b01_ft, k1r, k1i, xG_some, xH_some, xC_v, xC_n, if_true, if_false, not_true_eq_false, not_false_eq_true, ix_st, ix_st2, List.getElem?_cons_succ, List.getElem?_cons_zero, List.set_cons_succ, List.set_cons_zero, Value.category, List.map_cons, List.map_nil, List.sum_cons, List.sum_nil, Nat.reduceAdd, Nat.reduceLeDiff, Nat.reduceEqDiff, Nat.zero_le, reduceCtorEq, ↓reduceIte, eq_self, xit, c1, a1, a2, eW]
      rfl
    obtain ⟨F1, f1, f2, s2⟩ := tau_i (T := T) (e := e) (d := d) g hfv ha hl h98 ht hk hp 4 0 (upd F k 0) rfl upd_eq
    have ak : nI k + 1 = nI (k + 1) := nI_add k 1
    have s3 : xe (ixP fv) (d + 8) 169 93 [some (.ref (b)), some (.ref (q)), some (.ref (h.length)), some (.int (nI p)), some (.int (nI k)), some (.int (nI (p + 4 * k + 4)))] [] (wT (h ++ [ia 5 F1]) tp T e) = xe (ixP fv) (d + 8) 169 23 [some (.ref (b)), some (.ref (q)), some (.ref (h.length)), some (.int (nI p)), some (.int (nI (k + 1))), some (.int (nI (p + 4 * k + 4)))] [] (wT (h ++ [ia 5 F1]) tp T e) := by
      simp only [q169_93, q169_96, i10, eq_self, ft0, ft1, b01_ft, k1r, k1i, xG_some, xH_some, xC_v, xC_n, if_true, if_false, not_true_eq_false, not_false_eq_true, ix_st, ix_st2, List.getElem?_cons_succ, List.getElem?_cons_zero, List.set_cons_succ, List.set_cons_zero, Value.category, List.map_cons, List.map_nil, List.sum_cons, List.sum_nil, Nat.reduceAdd, Nat.reduceLeDiff, Nat.reduceEqDiff, Nat.zero_le, reduceCtorEq, ↓reduceIte, eq_self, xit, ak]
    obtain ⟨F2, m5, f3, s4⟩ := tau_k g hfv ha hl h98 ht hp r (k + 1) F1 (some (.int (nI (p + 4 * k + 4)))) (by omega) (fun j hj => by
      by_cases c : j = k
      · subst c
        exact f1
      · rw [f2 j c, upd_ne c]
        exact hF j (by omega))
    exact ⟨F2, m5, f3, s1.trans (s2.trans (s3.trans s4))⟩
/-- twenty signs -/
theorem tau_p (g : tq h tp q w l) (hfv : fv = .null ∨ fv = .ref 97) (ha : asc l) (hl : l.length ≤ 1900) (h98 : 98 ≤ b) (hbt : b < tp) (ht : tp + 2 ≤ h.length) (hb : h[b]? = some (.inr (6, [.ref tp, .ref rd, .ref t, .ref t2, .int lea]))) (hp : p < l.length) : ∃ F' T' m4 m5, (∀ i, T' i = if p ≤ i ∧ i < p + 20 then nI (byI l i) else T i) ∧ xe (ixP fv) (d + 8) 169 12 [some (.ref (b)), some (.ref (q)), some (.ref (h.length)), some (.int (nI p)), l4, l5] [] (wT (h ++ [ia 5 F]) tp T (nI p)) = xe (ixP fv) (d + 8) 169 12 [some (.ref (b)), some (.ref (q)), some (.ref (h.length)), some (.int (nI (p + 20))), m4, m5] [] (wT (h ++ [ia 5 F']) tp T' (nI (p + 20))) := by
  have eL := fun d => tq_l (fv := fv) (d := d) (F := F) (T := T) (e := nI p) g
  have c1 : ¬ nI l.length ≤ nI p := nI_ge hp (by omega)
  have s1 : xe (ixP fv) (d + 8) 169 12 [some (.ref (b)), some (.ref (q)), some (.ref (h.length)), some (.int (nI p)), l4, l5] [] (wT (h ++ [ia 5 F]) tp T (nI p)) = xe (ixP fv) (d + 8) 169 23 [some (.ref (b)), some (.ref (q)), some (.ref (h.length)), some (.int (nI p)), some (.int (nI 0)), l5] [] (wT (h ++ [ia 5 F]) tp T (nI p)) := by
    simp only [q169_12 (x := nI p), q169_13, q169_14, q169_17, q169_20, q169_21, i10, eq_self, ft0, ft1, b01_ft, k1r, k1i, xG_some, xH_some, xC_v, xC_n, if_true, if_false, not_true_eq_false, not_false_eq_true, ix_st, ix_st2, List.getElem?_cons_succ, List.getElem?_cons_zero, List.set_cons_succ, List.set_cons_zero, Value.category, List.map_cons, List.map_nil, List.sum_cons, List.sum_nil, Nat.reduceAdd, Nat.reduceLeDiff, Nat.reduceEqDiff, Nat.zero_le, reduceCtorEq, ↓reduceIte, eq_self, xit, c1, eL, tq_i g]
    rfl
  obtain ⟨F1, m5, f1, s2⟩ := tau_k (T := T) (e := nI p) (d := d) g hfv ha (by omega) (by omega) ht (p := p) (by omega) 5 0 F l5 rfl (fun j hj => absurd hj (Nat.not_lt_zero _))
  have hb2 : (h ++ [ia 5 F1] : ix_H)[b]? = some (.inr (6, [.ref tp, .ref rd, .ref t, .ref t2, .int lea])) := get_old hb
  have ht2 : tp + 2 ≤ (h ++ [ia 5 F1]).length := by rw [List.length_append]; omega
  have eF := fun d => m91 (fv := fv) (d := d) (h := h ++ [ia 5 F1]) (T := T) (p := p) (n0 := vb l p 4) (n1 := vb l (p + 4) 4) (n2 := vb l (p + 8) 4) (n3 := vb l (p + 12) 4) (n4 := vb l (p + 16) 4) hb2 h98 hbt ht2 (by omega) (vb_4 ha).1 (vb_4 ha).1 (vb_4 ha).1 (vb_4 ha).1 (vb_4 ha).1
  have r0 : rA (wT (h ++ [ia 5 F1]) tp T (nI p)) h.length 0 = some (.int (nI (vb l p 4))) := (HT_r (k := 0) ht (by decide)).trans (congrArg (fun z => some (Value.int z)) (f1 0 (by decide)))
  have r1 : rA (wT (h ++ [ia 5 F1]) tp T (nI p)) h.length 1 = some (.int (nI (vb l (p + 4) 4))) := (HT_r (k := 1) ht (by decide)).trans (congrArg (fun z => some (Value.int z)) (f1 1 (by decide)))
  have r2 : rA (wT (h ++ [ia 5 F1]) tp T (nI p)) h.length 2 = some (.int (nI (vb l (p + 8) 4))) := (HT_r (k := 2) ht (by decide)).trans (congrArg (fun z => some (Value.int z)) (f1 2 (by decide)))
  have r3 : rA (wT (h ++ [ia 5 F1]) tp T (nI p)) h.length 3 = some (.int (nI (vb l (p + 12) 4))) := (HT_r (k := 3) ht (by decide)).trans (congrArg (fun z => some (Value.int z)) (f1 3 (by decide)))
  have r4 : rA (wT (h ++ [ia 5 F1]) tp T (nI p)) h.length 4 = some (.int (nI (vb l (p + 16) 4))) := (HT_r (k := 4) ht (by decide)).trans (congrArg (fun z => some (Value.int z)) (f1 4 (by decide)))
  have isb := isW_T (fv := fv) (T := T) (e := nI p) hb2 hbt
  have a20 : nI p + 20 = nI (p + 20) := nI_add p 20
  refine ⟨F1, _, some (.int (nI 5)), m5, fun i => ?_, s1.trans (s2.trans (?_ : _ = xe (ixP fv) (d + 8) 169 12 [some (.ref (b)), some (.ref (q)), some (.ref (h.length)), some (.int (nI (p + 20))), some (.int (nI 5)), m5] [] (wT (h ++ [ia 5 F1]) tp (ap4 (ap4 (ap4 (ap4 (ap4 T p (vb l p 4)) (p + 4) (vb l (p + 4) 4)) (p + 8) (vb l (p + 8) 4)) (p + 12) (vb l (p + 12) 4)) (p + 16) (vb l (p + 16) 4)) (nI (p + 20)))))⟩
  · rw [ap4_i ha, ap4_i ha, ap4_i ha, ap4_i ha, ap4_i ha]
    by_cases c : p ≤ i ∧ i < p + 20
    · rw [if_pos c]
      split
      · rfl
      split
      · rfl
      split
      · rfl
      split
      · rfl
      split
      · rfl
      · omega
    · rw [if_neg c, if_neg (by omega), if_neg (by omega), if_neg (by omega), if_neg (by omega), if_neg (by omega)]
  · simp only [q169_99, q169_100, q169_101, q169_102, q169_103, q169_104, q169_105, q169_106, q169_107, q169_108, q169_109, q169_110, q169_111, q169_112, q169_113, q169_114, q169_115, q169_118, q169_119, q169_122, i10, eq_self, ft0, ft1, b01_ft, k1r, k1i, xG_some, xH_some, xC_v, xC_n, if_true, if_false, not_true_eq_false, not_false_eq_true, ix_st, ix_st2, List.getElem?_cons_succ, List.getElem?_cons_zero, List.set_cons_succ, List.set_cons_zero, Value.category, List.map_cons, List.map_nil, List.sum_cons, List.sum_nil, Nat.reduceAdd, Nat.reduceLeDiff, Nat.reduceEqDiff, Nat.zero_le, reduceCtorEq, ↓reduceIte, eq_self, xit, r0, r1, r2, r3, r4, eF, isb, a20]
theorem tau_all (g : tq h tp q w l) (hfv : fv = .null ∨ fv = .ref 97) (ha : asc l) (hl : l.length ≤ 1900) (h98 : 98 ≤ b) (hbt : b < tp) (ht : tp + 2 ≤ h.length) (hb : h[b]? = some (.inr (6, [.ref tp, .ref rd, .ref t, .ref t2, .int lea]))) : ∀ (r p : Nat) (F T : Nat → Int32) (l4 l5 : Option Value), l.length ≤ p + 20 * r → p ≤ l.length + 20 → (∀ i, i < p → T i = nI (byI l i)) → ∃ F' T' p' m4 m5, l.length ≤ p' ∧ p' ≤ l.length + 20 ∧ (∀ i, i < p' → T' i = nI (byI l i)) ∧ xe (ixP fv) (d + 8) 169 12 [some (.ref (b)), some (.ref (q)), some (.ref (h.length)), some (.int (nI p)), l4, l5] [] (wT (h ++ [ia 5 F]) tp T (nI p)) = xe (ixP fv) (d + 8) 169 125 [some (.ref (b)), some (.ref (q)), some (.ref (h.length)), some (.int (nI p')), m4, m5] [] (wT (h ++ [ia 5 F']) tp T' (nI p'))
  | 0, p, F, T, l4, l5, hr, hp, hT => by
    have eL := fun d => tq_l (fv := fv) (d := d) (F := F) (T := T) (e := nI p) g
    have c1 : nI l.length ≤ nI p := nI_le (by omega) (by omega)
    refine ⟨F, T, p, l4, l5, by omega, hp, hT, ?_⟩
    simp only [q169_12 (x := nI p), q169_13, q169_14, q169_17, i10, eq_self, ft0, ft1, b01_ft, k1r, k1i, xG_some, xH_some, xC_v, xC_n, if_true, if_false, not_true_eq_false, not_false_eq_true, ix_st, ix_st2, List.getElem?_cons_succ, List.getElem?_cons_zero, List.set_cons_succ, List.set_cons_zero, Value.category, List.map_cons, List.map_nil, List.sum_cons, List.sum_nil, Nat.reduceAdd, Nat.reduceLeDiff, Nat.reduceEqDiff, Nat.zero_le, reduceCtorEq, ↓reduceIte, eq_self, xit, c1, eL, tq_i g]
  | r + 1, p, F, T, l4, l5, hr, hp, hT => by
    by_cases c : p < l.length
    · obtain ⟨F1, T1, m4, m5, f1, s1⟩ := tau_p (d := d) (F := F) (T := T) (l4 := l4) (l5 := l5) g hfv ha hl h98 hbt ht hb c
      obtain ⟨F2, T2, p', x4, x5, y1, y2, y3, s2⟩ := tau_all g hfv ha hl h98 hbt ht hb r (p + 20) F1 T1 m4 m5 (by omega) (by omega) (fun i hi => by
        rw [f1 i]
        split
        · rfl
        · exact hT i (by omega))
      exact ⟨F2, T2, p', x4, x5, y1, y2, y3, s1.trans s2⟩
    · have eL := fun d => tq_l (fv := fv) (d := d) (F := F) (T := T) (e := nI p) g
      have c1 : nI l.length ≤ nI p := nI_le (by omega) (by omega)
      refine ⟨F, T, p, l4, l5, by omega, hp, hT, ?_⟩
      simp only [q169_12 (x := nI p), q169_13, q169_14, q169_17, i10, eq_self, ft0, ft1, b01_ft, k1r, k1i, xG_some, xH_some, xC_v, xC_n, if_true, if_false, not_true_eq_false, not_false_eq_true, ix_st, ix_st2, List.getElem?_cons_succ, List.getElem?_cons_zero, List.set_cons_succ, List.set_cons_zero, Value.category, List.map_cons, List.map_nil, List.sum_cons, List.sum_nil, Nat.reduceAdd, Nat.reduceLeDiff, Nat.reduceEqDiff, Nat.zero_le, reduceCtorEq, ↓reduceIte, eq_self, xit, c1, eL, tq_i g]
/-- the text is on the tape -/
theorem m169_0 (g : tq h tp q w l) (hfv : fv = .null ∨ fv = .ref 97) (ha : asc l) (hl : l.length ≤ 1900) (h98 : 98 ≤ b) (hbt : b < tp) (ht : tp + 2 ≤ h.length) (hb : h[b]? = some (.inr (6, [.ref tp, .ref rd, .ref t, .ref t2, .int lea]))) : ∃ F' T' m3 m4 m5, (∀ i, i < l.length → T' i = nI (byI l i)) ∧ xe (ixP fv) (d + 8) 169 0 [some (.ref (b)), some (.ref (q)), none, none, none, none] [] (wT h tp T 0) = xe (ixP fv) (d + 8) 169 134 [some (.ref (b)), some (.ref (q)), some (.ref (h.length)), m3, m4, m5] [] (wT (h ++ [ia 5 F']) tp T' (nI l.length)) := by
  have b5 : ix_big 5 = true := bg (m := 5) (by decide)
  have k5 : (5 : Int32).toNatClampNeg = 5 := nI_clamp (n := 5) (by decide)
  have hb2 : ∀ F : Nat → Int32, (h ++ [ia 5 F] : ix_H)[b]? = some (.inr (6, [.ref tp, .ref rd, .ref t, .ref t2, .int lea])) := fun F => get_old hb
  have ht2 : ∀ F : Nat → Int32, tp + 2 ≤ (h ++ [ia 5 F]).length := fun F => by rw [List.length_append]; omega
  have ep : wT h tp T 0 ++ [.inl (0, 5, .inl (fun _ => 0))] = (wT (h ++ [ia 5 (fun _ => 0)]) tp T 0) := ov_push (cs := tpc tp T 0) ht
  have el : (wT h tp T 0).length = h.length := ov_len _ _ _
  have e0 := fun d => m92 (fv := fv) (d := d) (T := T) (p := 0) (n := 0) (hb2 (fun _ => 0)) h98 hbt (ht2 (fun _ => 0)) (Nat.le_refl _) (by decide)
  have e0 : ∀ d, xe (ixP fv) d 92 0 [some (.ref (b)), some (.int (0))] [] (wT (h ++ [ia 5 (fun _ => 0)]) tp T 0) = some (.inl (some (.int 0)), (wT (h ++ [ia 5 (fun _ => 0)]) tp T 0)) := e0
  have is0 := isW_T (fv := fv) (T := T) (e := 0) (hb2 (fun _ => 0)) hbt
  have s1 : xe (ixP fv) (d + 8) 169 0 [some (.ref (b)), some (.ref (q)), none, none, none, none] [] (wT h tp T 0) = xe (ixP fv) (d + 8) 169 12 [some (.ref (b)), some (.ref (q)), some (.ref (h.length)), some (.int (nI 0)), none, none] [] (wT (h ++ [ia 5 (fun _ => 0)]) tp T (nI 0)) := by
    simp only [q169_0, q169_3, q169_4, q169_5, q169_6, q169_9, q169_10, q169_11, q169_1 b5, i10, eq_self, ft0, ft1, b01_ft, k1r, k1i, xG_some, xH_some, xC_v, xC_n, if_true, if_false, not_true_eq_false, not_false_eq_true, ix_st, ix_st2, List.getElem?_cons_succ, List.getElem?_cons_zero, List.set_cons_succ, List.set_cons_zero, Value.category, List.map_cons, List.map_nil, List.sum_cons, List.sum_nil, Nat.reduceAdd, Nat.reduceLeDiff, Nat.reduceEqDiff, Nat.zero_le, reduceCtorEq, ↓reduceIte, eq_self, xit, k5, izI, ep, el, e0, is0]
    rfl
  obtain ⟨F1, T1, p', m4, m5, f1, f2, f3, s2⟩ := tau_all (fv := fv) (d := d) g hfv ha hl h98 hbt ht hb l.length 0 (fun _ => 0) T none none (by omega) (by omega) (fun i hi => absurd hi (Nat.not_lt_zero _))
  have eL := fun d => tq_l (fv := fv) (d := d) (F := F1) (T := T1) (e := nI p') g
  have e1 := fun d => m92 (fv := fv) (d := d) (T := T1) (p := p') (n := l.length) (hb2 F1) h98 hbt (ht2 F1) f1 (by omega)
  have is1 := isW_T (fv := fv) (T := T1) (e := nI p') (hb2 F1) hbt
  refine ⟨F1, T1, some (.int (nI p')), m4, m5, fun i hi => f3 i (by omega), s1.trans (s2.trans ?_)⟩
  simp only [q169_125, q169_126, q169_127, q169_130, q169_133, i10, eq_self, ft0, ft1, b01_ft, k1r, k1i, xG_some, xH_some, xC_v, xC_n, if_true, if_false, not_true_eq_false, not_false_eq_true, ix_st, ix_st2, List.getElem?_cons_succ, List.getElem?_cons_zero, List.set_cons_succ, List.set_cons_zero, Value.category, List.map_cons, List.map_nil, List.sum_cons, List.sum_nil, Nat.reduceAdd, Nat.reduceLeDiff, Nat.reduceEqDiff, Nat.zero_le, reduceCtorEq, ↓reduceIte, eq_self, xit, eL, e1, is1, tq_i g]
end ST16
