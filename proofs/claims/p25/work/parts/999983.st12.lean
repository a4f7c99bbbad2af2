/-! THE START: tokens, reader, the class made (written by gen999983.py). -/
/-- a word's number, one sign more -/
def spl (w : Int64) (x : Int32) : Int64 := w * 76 + (x - 48 + 1).toInt64
def cN (k : Nat) : Nat := ((sK 0).getD k 0).toNatClampNeg
theorem cN_c : ∀ k, k < 153 → (sK 0)[k]? = some (nI (cN k)) ∧ cN k < 128 := by decide +kernel
/-- a letter of the keywords -/
def KS (k : Nat) (s : Nat × (Nat → Int64)) : Nat × (Nat → Int64) := if cN k = 32 then (s.1 + 1, s.2) else if s.1 < 30 then (s.1, vp_updL s.2 s.1 (spl (s.2 s.1) (nI (cN k)))) else s
/-- the keywords' numbers -/
def KW : Nat → Int64 := (itr KS 0 153 (0, fun _ => 0)).2
def HK (h : ix_H) (K : Nat → Int64) : ix_H := (h ++ [.inr (5, [.ref (h.length + 1), .ref (h.length + 2), .ref (h.length + 3), .ref (h.length + 4), defaultValue .int, defaultValue .long]), .inl (1, 30, .inr (.inl K)), .inl (0, 401, .inl (fun _ => 0)), .inl (0, 401, .inl (fun _ => 0)), .inl (1, 401, .inr (.inl (fun _ => 0)))] : ix_H)
section ST12
variable {fv : Value} {d : Nat} {h : ix_H} {pl k i N : Nat} {xs : Nat → Int32} {K : Nat → Int64} {w : Int64} {x : Int32}
theorem m84 {H : ix_H} : xe (ixP fv) d 84 0 [some (.long w), none, some (.int x)] [] H = some (.inl (some (.long (spl w x))), H) := by
  simp only [q84_0, q84_1, q84_4, q84_5, q84_6, q84_8, q84_9, q84_10, q84_11, q84_12, q84_13 (st := [])]
  rfl
theorem izJ : ix_z (newarray.typeOf .long) = .inr (.inl (fun _ => 0)) := rfl
theorem HK_ok (g : OK N xs h) (h98 : 98 ≤ h.length) : OK N xs (HK h K) := fun q hq => (List.getElem?_append_left (by omega)).trans (g q hq)
theorem HK_0 : (HK h K)[h.length]? = some (.inr (5, [.ref (h.length + 1), .ref (h.length + 2), .ref (h.length + 3), .ref (h.length + 4), defaultValue .int, defaultValue .long])) := by
  unfold HK
  rw [List.getElem?_append_right (Nat.le_refl _), Nat.sub_self]
  rfl
theorem HK_1 : (HK h K)[h.length + 1]? = some (.inl (1, 30, .inr (.inl K))) := by
  unfold HK
  rw [List.getElem?_append_right (by omega), show h.length + 1 - h.length = 1 by omega]
  rfl
theorem HK_s {v : Int64} (hi : i < 30) (h98 : 98 ≤ h.length) : wJ (ixP fv) (HK h K) (h.length + 1) (nI i) v = some (HK h (vp_updL K i v)) := by
  rw [wJ_of HK_1 (by omega) (in_big hi (by decide)), nI_clamp (by omega)]
  unfold HK
  rw [List.set_append_right _ _ (by omega), show h.length + 1 - h.length = 1 by omega]
  rfl
theorem c77_step (hfv : fv = .null ∨ fv = .ref 97) (g : OK N xs h) (h98 : 98 ≤ h.length) (hk : k < 153) {s : Nat × (Nat → Int64)} (hs : s.1 ≤ 200) : xe (ixP fv) (d + 4) 77 43 [some (.ref h.length), some (.int (nI s.1)), some (.int (nI k))] [] (HK h s.2) = xe (ixP fv) (d + 4) 77 43 [some (.ref h.length), some (.int (nI (KS k s).1)), some (.int (nI (k + 1)))] [] (HK h (KS k s).2) := by
  have gO := HK_ok (K := s.2) g h98
  have hst := OK_str gO (k := 0) (by decide)
  obtain ⟨a, ys, e1, e2, -⟩ := id hst
  have is1 := isSt (fv := fv) e1
  have is1 : ix_is (ixP fv) (HK h s.2) 1 "java/lang/String" = true := is1
  have eL := fun d => m149 (fv := fv) (d := d) e1 e2
  have eL : ∀ d, xe (ixP fv) (d + 1) 149 0 [some (.ref 1)] [] (HK h s.2) = some (.inl (some (.int (nI 153))), HK h s.2) := eL
  obtain ⟨k1, k2⟩ := cN_c k hk
  have eC := fun d => m150 (fv := fv) (d := d) (k := k) (c := cN k) hfv hst k1 k2 (by rw [show (sK 0).length = 153 by decide +kernel]; decide)
  have eC : ∀ d, xe (ixP fv) (d + 3) 150 0 [some (.ref 1), some (.int (nI k))] [] (HK h s.2) = some (.inl (some (.int (nI (cN k)))), HK h s.2) := eC
  have c1 : ¬ nI 153 ≤ nI k := nI_ge hk (by omega)
  have ek : nI k + 1 = nI (k + 1) := nI_add k 1
  have ei : nI s.1 + 1 = nI (s.1 + 1) := nI_add s.1 1
  have eF : ∀ ty fin Y, rF (ixP fv) (HK h s.2) h.length (5, 0, ty, fin, Y) = some (.ref (h.length + 1)) := fun ty fin Y => rF_of HK_0 h98 rfl
  have eN : rN (ixP fv) (HK h s.2) (h.length + 1) = some (.int (nI 30)) := rN_of HK_1 (by decide)
  unfold KS
  by_cases c2 : cN k = 32
  · have c3 : nI (cN k) = 32 := by rw [c2]; rfl
    rw [if_pos c2]
    simp only [q77_43 (x := nI k), q77_44, q77_46, q77_49, q77_52, q77_54, q77_55, q77_58, q77_60, q77_63, q77_66, q77_69, q77_70, q77_71, q77_74, q77_75, q77_78, q77_79, q77_82, q77_83, q77_84, q77_87, q77_88, q77_89, q77_91, q77_92, q77_95, q77_98, q77_99, q77_102, i10, eq_self, ft0, ft1, b01_ft, k1r, k1i, xG_some, xH_some, xC_v, xC_n, if_true, if_false, not_true_eq_false, not_false_eq_true, ix_st, ix_st2, List.getElem?_cons_succ, List.getElem?_cons_zero, List.set_cons_succ, List.set_cons_zero, Value.category, List.map_cons, List.map_nil, List.sum_cons, List.sum_nil, Nat.reduceAdd, Nat.reduceLeDiff, Nat.reduceEqDiff, Nat.zero_le, reduceCtorEq, ↓reduceIte, eq_self, xit, is1, eL, eC, c1, ek, ei, c3]
  · have c3 : ¬ nI (cN k) = 32 := fun e => c2 ((nI_eq (b := 32) (by omega) (by decide)).mp e)
    rw [if_neg c2]
    by_cases c4 : s.1 < 30
    · have c5 : ¬ nI 30 ≤ nI s.1 := nI_ge c4 (by omega)
      rw [if_pos c4]
      have eR : rJ (HK h s.2) (h.length + 1) (nI s.1) = some (.long (s.2 s.1)) := by
        rw [rJ_of HK_1 (in_big c4 (by decide)), nI_clamp (by omega)]
      have eW := HK_s (fv := fv) (K := s.2) (v := spl (s.2 s.1) (nI (cN k))) c4 h98
      have eM := fun d H => m84 (fv := fv) (d := d) (H := H) (w := s.2 s.1) (x := nI (cN k))
      simp only [q77_43 (x := nI k), q77_44, q77_46, q77_49, q77_52, q77_54, q77_55, q77_58, q77_60, q77_63, q77_66, q77_69, q77_70, q77_71, q77_74, q77_75, q77_78, q77_79, q77_82, q77_83, q77_84, q77_87, q77_88, q77_89, q77_91, q77_92, q77_95, q77_98, q77_99, q77_102, i10, eq_self, ft0, ft1, b01_ft, k1r, k1i, xG_some, xH_some, xC_v, xC_n, if_true, if_false, not_true_eq_false, not_false_eq_true, ix_st, ix_st2, List.getElem?_cons_succ, List.getElem?_cons_zero, List.set_cons_succ, List.set_cons_zero, Value.category, List.map_cons, List.map_nil, List.sum_cons, List.sum_nil, Nat.reduceAdd, Nat.reduceLeDiff, Nat.reduceEqDiff, Nat.zero_le, reduceCtorEq, ↓reduceIte, eq_self, xit, is1, eL, eC, c1, ek, c3, c5, eF, eN, eR, eW, eM]
    · have c5 : nI 30 ≤ nI s.1 := nI_le (by omega) (by omega)
      rw [if_neg c4]
      simp only [q77_43 (x := nI k), q77_44, q77_46, q77_49, q77_52, q77_54, q77_55, q77_58, q77_60, q77_63, q77_66, q77_69, q77_70, q77_71, q77_74, q77_75, q77_78, q77_79, q77_82, q77_83, q77_84, q77_87, q77_88, q77_89, q77_91, q77_92, q77_95, q77_98, q77_99, q77_102, i10, eq_self, ft0, ft1, b01_ft, k1r, k1i, xG_some, xH_some, xC_v, xC_n, if_true, if_false, not_true_eq_false, not_false_eq_true, ix_st, ix_st2, List.getElem?_cons_succ, List.getElem?_cons_zero, List.set_cons_succ, List.set_cons_zero, Value.category, List.map_cons, List.map_nil, List.sum_cons, List.sum_nil, Nat.reduceAdd, Nat.reduceLeDiff, Nat.reduceEqDiff, Nat.zero_le, reduceCtorEq, ↓reduceIte, eq_self, xit, is1, eL, eC, c1, ek, c3, c5, eF, eN]
theorem KS_le {s : Nat × (Nat → Int64)} : (KS k s).1 ≤ s.1 + 1 := by
  unfold KS
  split
  · exact Nat.le_refl _
  split
  · exact Nat.le_succ _
  · exact Nat.le_succ _
theorem c77_all (hfv : fv = .null ∨ fv = .ref 97) (g : OK N xs h) (h98 : 98 ≤ h.length) : ∀ (r k : Nat) (s : Nat × (Nat → Int64)), k + r = 153 → s.1 ≤ k → xe (ixP fv) (d + 4) 77 43 [some (.ref h.length), some (.int (nI s.1)), some (.int (nI k))] [] (HK h s.2) = some (.inl none, HK h (itr KS k r s).2)
  | 0, k, s, e, hs => by
    have : k = 153 := by omega
    subst this
    have gO := HK_ok (K := s.2) g h98
    have hst := OK_str gO (k := 0) (by decide)
    obtain ⟨a, ys, e1, e2, -⟩ := id hst
    have is1 := isSt (fv := fv) e1
    have is1 : ix_is (ixP fv) (HK h s.2) 1 "java/lang/String" = true := is1
    have eL := fun d => m149 (fv := fv) (d := d) e1 e2
    have eL : ∀ d, xe (ixP fv) (d + 1) 149 0 [some (.ref 1)] [] (HK h s.2) = some (.inl (some (.int (nI 153))), HK h s.2) := eL
    have c1 : nI 153 ≤ nI 153 := Int32.le_refl _
    simp only [q77_43 (x := nI 153), q77_44, q77_46, q77_49, q77_105 (st := []), i10, eq_self, ft0, ft1, b01_ft, k1r, k1i, xG_some, xH_some, xC_v, xC_n, if_true, if_false, not_true_eq_false, not_false_eq_true, ix_st, ix_st2, List.getElem?_cons_succ, List.getElem?_cons_zero, List.set_cons_succ, List.set_cons_zero, Value.category, List.map_cons, List.map_nil, List.sum_cons, List.sum_nil, Nat.reduceAdd, Nat.reduceLeDiff, Nat.reduceEqDiff, Nat.zero_le, reduceCtorEq, ↓reduceIte, eq_self, xit, is1, eL, c1]
    rfl
  | r + 1, k, s, e, hs => by
    rw [c77_step hfv g h98 (by omega) (by omega)]
    have := KS_le (k := k) (s := s)
    exact c77_all hfv g h98 r (k + 1) (KS k s) (by omega) (by omega)
theorem c77 (hfv : fv = .null ∨ fv = .ref 97) (g : OK N xs h) (h98 : 98 ≤ h.length) : xe (ixP fv) (d + 4) 77 0 [some (.ref h.length), none, none] [] (h ++ [.inr (5, [defaultValue (.array .long), defaultValue (.array .int), defaultValue (.array .int), defaultValue (.array .long), defaultValue .int, defaultValue .long])]) = some (.inl none, HK h KW) := by
  have w0 : ∀ (a0 a1 a2 a3 a4 a5 : Value) (l : ix_H) (v : Nat), wF (ixP fv) (h ++ .inr (5, [a0, a1, a2, a3, a4, a5]) :: l) h.length (5, 0, (.array .long), true, none) true (.ref v) = some (h ++ .inr (5, [.ref v, a1, a2, a3, a4, a5]) :: l) := fun a0 a1 a2 a3 a4 a5 l v => wFm h98 (by show 0 < 6; decide) rfl (Or.inr ⟨rfl, rfl⟩)
  have w1 : ∀ (a0 a1 a2 a3 a4 a5 : Value) (l : ix_H) (v : Nat), wF (ixP fv) (h ++ .inr (5, [a0, a1, a2, a3, a4, a5]) :: l) h.length (5, 1, (.array .int), true, none) true (.ref v) = some (h ++ .inr (5, [a0, .ref v, a2, a3, a4, a5]) :: l) := fun a0 a1 a2 a3 a4 a5 l v => wFm h98 (by show 1 < 6; decide) rfl (Or.inr ⟨rfl, rfl⟩)
  have w2 : ∀ (a0 a1 a2 a3 a4 a5 : Value) (l : ix_H) (v : Nat), wF (ixP fv) (h ++ .inr (5, [a0, a1, a2, a3, a4, a5]) :: l) h.length (5, 2, (.array .int), true, none) true (.ref v) = some (h ++ .inr (5, [a0, a1, .ref v, a3, a4, a5]) :: l) := fun a0 a1 a2 a3 a4 a5 l v => wFm h98 (by show 2 < 6; decide) rfl (Or.inr ⟨rfl, rfl⟩)
  have w3 : ∀ (a0 a1 a2 a3 a4 a5 : Value) (l : ix_H) (v : Nat), wF (ixP fv) (h ++ .inr (5, [a0, a1, a2, a3, a4, a5]) :: l) h.length (5, 3, (.array .long), true, none) true (.ref v) = some (h ++ .inr (5, [a0, a1, a2, .ref v, a4, a5]) :: l) := fun a0 a1 a2 a3 a4 a5 l v => wFm h98 (by show 3 < 6; decide) rfl (Or.inr ⟨rfl, rfl⟩)
  have b30 : ix_big 30 = true := bg (m := 30) (by decide)
  have k30 : (30 : Int32).toNatClampNeg = 30 := nI_clamp (n := 30) (by decide)
  have b401 : ix_big 401 = true := bg (m := 401) (by decide)
  have k401 : (401 : Int32).toNatClampNeg = 401 := nI_clamp (n := 401) (by decide)
  have c8 : (0 : Nat) ≤ 8 := by decide
  have e := c77_all (fv := fv) (d := d) hfv g h98 153 0 (0, fun _ => 0) rfl (Nat.le_refl _)
  refine Eq.trans ?_ e
  simp only [q77_0, q77_4, q77_5, q77_9, q77_12, q77_13, q77_18, q77_21, q77_22, q77_27, q77_30, q77_31, q77_36, q77_39, q77_40, q77_41, q77_42, q77_1 (st := []) c8, q77_7 b30, q77_16 b401, q77_25 b401, q77_34 b401, i10, eq_self, ft0, ft1, b01_ft, k1r, k1i, xG_some, xH_some, xC_v, xC_n, if_true, if_false, not_true_eq_false, not_false_eq_true, ix_st, ix_st2, List.getElem?_cons_succ, List.getElem?_cons_zero, List.set_cons_succ, List.set_cons_zero, Value.category, List.map_cons, List.map_nil, List.sum_cons, List.sum_nil, Nat.reduceAdd, Nat.reduceLeDiff, Nat.reduceEqDiff, Nat.zero_le, reduceCtorEq, ↓reduceIte, eq_self, xit, k30, k401, izI, izJ, w0, w1, w2, w3, apm, lnm, List.length_cons, List.length_nil, List.nil_append, List.cons_append, Nat.add_assoc, Nat.zero_add]
  rfl
end ST12
