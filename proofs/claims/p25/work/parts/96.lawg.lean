/-! THE LAW: act, glazing (written by gen96.py). -/
/-- a little longer, and the same where neither the class nor Sim lies -/
def FP2 (H H' : ix_H) (t2 c z : Nat) : Prop := H.length ≤ H'.length ∧ H'.length ≤ H.length + c ∧ ix_sz H' ≤ ix_sz H + z ∧ ∀ o, o < H.length → (o < 98 ∨ t2 + 10 ≤ o) → H'[o]? = H[o]?
theorem FP2_of {H H' : ix_H} {t2 c z : Nat} (h : FR H H' t2) : FP2 H H' t2 c z := ⟨Nat.le_of_eq h.1.symm, by rw [h.1]; exact Nat.le_add_right _ _, by rw [h.2.1]; exact Nat.le_add_right _ _, fun o _ ho => h.2.2 o ho⟩
theorem FP2_t {H H1 H2 : ix_H} {t2 c z c' z' : Nat} (h : FP2 H H1 t2 c z) (h' : FP2 H1 H2 t2 c' z') : FP2 H H2 t2 (c + c') (z + z') := ⟨Nat.le_trans h.1 h'.1, by have := h.2.1; have := h'.2.1; omega, by have := h.2.2.1; have := h'.2.2.1; omega, fun o hl ho => (h'.2.2.2 o (Nat.lt_of_lt_of_le hl h.1) ho).trans (h.2.2.2 o hl ho)⟩
theorem FP2_push {H : ix_H} {t2 : Nat} {x : ix_C} : FP2 H (H ++ [x]) t2 1 (ix_cs x) := ⟨by rw [List.length_append]; exact Nat.le_add_right _ _, by rw [List.length_append]; exact Nat.le_refl _, Nat.le_of_eq (ix_sz_push H x), fun o ho _ => List.getElem?_append_left ho⟩
theorem xX_v {P : ix_P} {d mid pc x0 pc0 : Nat} {lv lv0 : ix_L} {rest : List Value} {v : Value} {h' : ix_H} : xX P d mid pc x0 pc0 lv lv0 rest (some (.inl (some v), h')) = xe P d mid pc lv (v :: rest) h' := rfl
theorem xX_t {P : ix_P} {d mid pc x0 pc0 : Nat} {lv lv0 : ix_L} {rest : List Value} {h' : ix_H} : xX P d mid pc x0 pc0 lv lv0 rest (some (.inr x0, h')) = xe P d mid pc0 lv0 [] h' := if_pos rfl
section LAWG
variable {fv : Value} {d : Nat} {H : ix_H} {b tp rd pl t t2 tb : Nat} {lea len : Int32} {Q A A' Z Z' : Mem} {s : Nat} {K : Nat → Option (Nat × Nat)} {X : Nat → Nat} {D : Nat → Nat → Nat} {n fb : Nat → Nat} {M M' : Mm} {p c f q m k v : Nat} {w i x : Int32}
theorem m174_g (g : HI H b tp rd pl t t2 tb lea len Q A Z s K X D n M fb) (hp : p < n 2) : ∃ H' A' M', xe (ixP fv) (d + 9) 174 91 [some (.ref b), some (.ref s), some (.int x), some (.int (nI p)), none, none] [] H = some (.inl (some (.int 1)), H') ∧ HI H' b tp rd pl t t2 tb lea len Q A' Z s K X D n M' fb ∧ FP2 H H' t2 1 6 := by
  have gs := g.1.2.2.2.2.1
  have hn := HI_n g
  have r5 := fun M ty fin Y => rS5 (fv := fv) (ty := ty) (fin := fin) (Y := Y) (M := M) gs
  have hin : inL (nI p) (Q 0 1) = false := by rw [g.2.1.1.1.1.2.1]; exact inL_n hp (by omega)
  have g1 : HW (wS H K X (um M 2 p 3 0)) b tp rd pl t t2 tb lea len Q A Z s K X D n (um M 2 p 3 0) := HW_putS g.1
  have is2 : ix_is (ixP fv) (wS H K X (um M 2 p 3 0)) b "SkylightWash" = true := is_of g1.1.1.2.2.2.2.2.1 (by decide +kernel)
  rcases g.2.1.1.2.2.2.1 p hp with hg | ⟨hg, -⟩
  · have hw : whL Q A (nI p) = true := by
      rw [whL_k g.2.1.1.1 g.2.1.1.2.1 hp, hg]
      rfl
    have e2 := fun d => m101_t (fv := fv) (d := d) (Q := Q) (A := A) (p := nI p) g1.1.1 hin hw
    rw [HW_A g1] at e2
    have hum : um M 2 p 3 0 = M := um_id hg
    have c1 : ¬ M 2 p 3 = 1 := by rw [hg]; decide
    rw [hum] at e2 is2
    refine ⟨H ++ [.inr (10, [])], A, M, ?_, HI_push g, FP2_push⟩
    have key : xe (ixP fv) (d + 9) 174 91 [some (.ref b), some (.ref s), some (.int x), some (.int (nI p)), none, none] [] (wS H K X M) = some (.inl (some (.int 1)), wS H K X M ++ [.inr (10, [])]) := by
      simp only [q174_91, q174_92, q174_95, q174_96, q174_97, q174_98, q174_99, q174_100, q174_103, q174_104, q174_107, q174_108, q174_110, q174_111, q174_114, q174_115, q174_116, q174_117, q174_118, q174_119, q174_120, q174_121, q174_124, q174_126, q174_128, q174_131, q174_133, q174_134, q174_137, q174_140, q174_141, q174_144, q174_145 (st := []), q174_146, q174_148, q174_150, q174_153, q174_154, q174_157, q174_158 (st := []), i10, eq_self, ft0, ft1, b01_ft, k1r, k1i, xG_some, xH_some, xC_v, xC_n, if_true, if_false, not_true_eq_false, not_false_eq_true, ix_st, ix_st2, List.getElem?_cons_succ, List.getElem?_cons_zero, List.set_cons_succ, List.set_cons_zero, Value.category, List.map_cons, List.map_nil, List.sum_cons, List.sum_nil, Nat.reduceAdd, Nat.reduceLeDiff, Nat.reduceEqDiff, Nat.zero_le, reduceCtorEq, ↓reduceIte, eq_self, xit, xX_v, xX_t, r5, rQ2 gs hp, c2_3 gs hp, u2_3 gs hp, hum, c1, e2, is2]
    rw [HW_S g.1] at key
    exact key
  · have hw : whL Q A (nI p) = false := by
      rw [whL_k g.2.1.1.1 g.2.1.1.2.1 hp, hg]
      rfl
    have hI := INV_glaze g.2.1 hp hg
    have e2 := fun d => m101 (fv := fv) (d := d) (Q := Q) (A := A) (p := nI p) g1.1.1 hin hw
    rw [HW_A g1, (pl_eq hI).1] at e2
    have g2 : HW (wAr (wS H K X (um M 2 p 3 0)) pl t Q (snL A (nI p))) b tp rd pl t t2 tb lea len Q (snL A (nI p)) Z s K X D n (um M 2 p 3 0) := HW_putA g1
    have e3 := fun d => m133 (fv := fv) (d := d) (M := um M 2 p 3 0) g2.2.2.2.2.1
    rw [HW_S g2] at e3
    have is3 := isS (fv := fv) (M := um M 2 p 3 0) g2.2.2.2.2.1
    rw [HW_S g2] at is3
    refine ⟨wAr (wS H K X (um M 2 p 3 0)) pl t Q (snL A (nI p)), snL A (nI p), um M 2 p 3 0, ?_, ⟨g2, hI, g.2.2.1, (congrFun (congrFun (um_t (by decide)) 0) 3).trans g.2.2.2.1, WP_s (PLs_2 (by decide)) g.2.2.2.2.1, g.2.2.2.2.2.1, g.2.2.2.2.2.2.1, g.2.2.2.2.2.2.2.1, (by unfold snL; rw [sp_ne (show 0 ≠ 2 by decide), sp_ne (show 0 ≠ 1 by decide), sp_ne (show 0 ≠ 3 by decide), um_t (show 0 ≠ 2 by decide)]; exact g.2.2.2.2.2.2.2.2.1), g.2.2.2.2.2.2.2.2.2⟩, FP2_of (FR_t (FR_S g.1 g.2.2.2.2.2.2.1) (FR_A g1))⟩
    have key : xe (ixP fv) (d + 9) 174 91 [some (.ref b), some (.ref s), some (.int x), some (.int (nI p)), none, none] [] (wS H K X M) = some (.inl (some (.int 1)), wAr (wS H K X (um M 2 p 3 0)) pl t Q (snL A (nI p))) := by
      simp only [q174_91, q174_92, q174_95, q174_96, q174_97, q174_98, q174_99, q174_100, q174_103, q174_104, q174_107, q174_108, q174_110, q174_111, q174_114, q174_115, q174_116, q174_117, q174_118, q174_119, q174_120, q174_121, q174_124, q174_126, q174_128, q174_131, q174_133, q174_134, q174_137, q174_140, q174_141, q174_144, q174_145 (st := []), q174_146, q174_148, q174_150, q174_153, q174_154, q174_157, q174_158 (st := []), i10, eq_self, ft0, ft1, b01_ft, k1r, k1i, xG_some, xH_some, xC_v, xC_n, if_true, if_false, not_true_eq_false, not_false_eq_true, ix_st, ix_st2, List.getElem?_cons_succ, List.getElem?_cons_zero, List.set_cons_succ, List.set_cons_zero, Value.category, List.map_cons, List.map_nil, List.sum_cons, List.sum_nil, Nat.reduceAdd, Nat.reduceLeDiff, Nat.reduceEqDiff, Nat.zero_le, reduceCtorEq, ↓reduceIte, eq_self, xit, xX_v, xX_t, r5, rQ2 gs hp, c2_3 gs hp, u2_3 gs hp, hg, e2, is2, e3, is3]
    rw [HW_S g.1] at key
    exact key
/-- act -/
theorem m174 (g : HI H b tp rd pl t t2 tb lea len Q A Z s K X D n M fb) : ∃ H' A' M', xe (ixP fv) (d + 9) 174 0 [some (.ref b), some (.ref s), some (.int x), none, none, none] [] H = some (.inl (some (.int 1)), H') ∧ HI H' b tp rd pl t t2 tb lea len Q A' Z s K X D n M' fb ∧ FP2 H H' t2 1 6 := by
  obtain ⟨p, hp, h | h | h | h | h⟩ := m174_0 (fv := fv) (d := d) (x := x) g
  · obtain ⟨H', A', M', e1, e2, e3⟩ := m174_w (fv := fv) (d := d) (p := p) (x := x) g
    exact ⟨H', A', M', h.trans e1, e2, FP2_of e3⟩
  · obtain ⟨H', A', M', e1, e2, e3⟩ := m174_g (fv := fv) (d := d) (p := p) (x := x) g hp
    exact ⟨H', A', M', h.trans e1, e2, e3⟩
  · obtain ⟨H', A', M', e1, e2, e3⟩ := m174_c (fv := fv) (d := d) (p := p) (x := x) g hp
    exact ⟨H', A', M', h.trans e1, e2, FP2_of e3⟩
  · obtain ⟨H', A', M', e1, e2, e3⟩ := m174_s (fv := fv) (d := d) (p := p) (x := x) g
    exact ⟨H', A', M', h.trans e1, e2, FP2_of e3⟩
  · obtain ⟨H', A', M', e1, e2, e3⟩ := m174_p (fv := fv) (d := d) (p := p) (x := x) g
    exact ⟨H', A', M', h.trans e1, e2, FP2_of e3⟩
end LAWG
