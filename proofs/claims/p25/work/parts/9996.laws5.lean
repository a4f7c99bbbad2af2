/-! THE LAW: isSame; the worst, the mean (written by gen9996.py). -/
theorem rB_3 {H : ix_H} {o n : Nat} {a : Nat → Int32} {i : Int32} (e : H[o]? = some (.inl (3, n, .inl a))) (hi : ix_in i n = true) : rB H o i = some (.int (a i.toNatClampNeg)) := by
  unfold rB ix_ai
  rw [e]
  exact if_pos ⟨Or.inr rfl, hi⟩
theorem wB_3 {fv : Value} {H : ix_H} {o n : Nat} {a : Nat → Int32} {i v : Int32} (e : H[o]? = some (.inl (3, n, .inl a))) (ho : 98 ≤ o) (hv : ix_ft .boolean (.int v) = true) (hi : ix_in i n = true) : wB (ixP fv) H o i v = some (H.set o (.inl (3, n, .inl (upd a i.toNatClampNeg v)))) := by
  unfold wB ix_ai
  rw [e]
  exact if_pos ⟨ho, Or.inr ⟨rfl, hv⟩, hi⟩
/-- told by now -/
def tdB (M : Mm) (E : Nat → Nat) (N v p : Nat) : Bool := stB M p && decide (rkB M E N p < v)
/-- may be told next -/
def cdB (M : Mm) (E : Nat → Nat) (N v p : Nat) : Bool := stB M p && !tdB M E N v p
theorem cd_t {M : Mm} {E : Nat → Nat} {N v p : Nat} : (cdB M E N v p = true) = (M 2 p 3 = 0 ∧ v ≤ rkB M E N p) := by
  unfold cdB tdB stB
  by_cases h : M 2 p 3 = 0
  · rw [decide_eq_true h]
    by_cases h2 : rkB M E N p < v
    · rw [decide_eq_true h2]
      exact propext ⟨fun e => absurd e (by decide), fun e => by omega⟩
    · rw [decide_eq_false h2]
      exact propext ⟨fun _ => ⟨h, by omega⟩, fun _ => rfl⟩
  · rw [decide_eq_false h]
    exact propext ⟨fun e => absurd e Bool.false_ne_true, fun e => absurd e.1 h⟩
/-- the best among the last ones -/
def bW (M : Mm) (E : Nat → Nat) (N v m : Nat) (w : Int32) : Prop := (w = -1 ∧ ∀ q, m ≤ q → q < N → ¬ cdB M E N v q = true) ∨ ∃ a, m ≤ a ∧ a < N ∧ w = nI a ∧ cdB M E N v a = true ∧ ∀ q, m ≤ q → q < N → cdB M E N v q = true → q ≠ a → bfB E a q = true
section LAWS5
variable {fv : Value} {d : Nat} {H : ix_H} {b tp rd pl t t2 tb o : Nat} {lea len : Int32} {Q A A' Z Z' : Mem} {s : Nat} {K : Nat → Option (Nat × Nat)} {X : Nat → Nat} {D : Nat → Nat → Nat} {n fb : Nat → Nat} {M M' : Mm} {p c f q m k v j r : Nat} {w i x : Int32} {F : Nat → Int32} {l0 l1 l2 l3 l4 l5 l6 l7 l8 l9 : Option Value} {o2 o4 a : Nat} {y3 : Int32} {E : Nat → Nat} {f : Nat → Int32}
theorem m1_n : nI k + -1 = nI k - 1 := by
  rw [Int32.sub_eq_add_neg]
theorem s_wi (g : HI H b tp rd pl t t2 tb lea len Q A Z s K X D n M fb) (hE : ∀ p, p < n 2 → M 2 p 1 = nI (E p) ∧ E p ≤ 1799) (h4 : H[o4]? = some (.inl (3, n 2, .inl f))) (hf : ∀ p, p < n 2 → f p = b01 (tdB M E (n 2) v p)) : ∀ (m : Nat) (w : Int32), m ≤ n 2 → bW M E (n 2) v m w → ∃ w', bW M E (n 2) v 0 w' ∧ xe (ixP fv) (d + 9) 135 670 [some (.ref s), some (.ref b), some (.ref o2), some (.int y3), some (.ref (o4)), some (.int (nI v)), some (.int (w)), some (.int (nI m - 1)), l8, l9] [] H = xe (ixP fv) (d + 9) 135 731 [some (.ref s), some (.ref b), some (.ref o2), some (.int y3), some (.ref (o4)), some (.int (nI v)), some (.int (w')), some (.int (nI 0 - 1)), l8, l9] [] H
  | 0, w, hm, hw => by
    have c1 : nI 0 - 1 < 0 := by decide
    refine ⟨w, hw, ?_⟩
    simp only [q135_670 (x := nI 0 - 1), q135_672, i10, eq_self, ft0, ft1, b01_ft, k1r, k1i, xG_some, xH_some, xC_v, xC_n, if_true, if_false, not_true_eq_false, not_false_eq_true, ix_st, ix_st2, List.getElem?_cons_succ, List.getElem?_cons_zero, List.set_cons_succ, List.set_cons_zero, Value.category, List.map_cons, List.map_nil, List.sum_cons, List.sum_nil, Nat.reduceAdd, Nat.reduceLeDiff, Nat.reduceEqDiff, Nat.zero_le, reduceCtorEq, ↓reduceIte, eq_self, xit, c1]
  | m + 1, w, hm, hw => by
    have hn := HI_n g
    have hp : m < n 2 := by omega
    have e7 : nI (m + 1) - 1 = nI m := by
      rw [← show nI m + 1 = nI (m + 1) from nI_add m 1, Int32.add_sub_cancel]
    rw [e7]
    have c1 : ¬ nI m < 0 := nI_pos (by omega)
    have eb : rB H o4 (nI m) = some (.int (b01 (tdB M E (n 2) v m))) := by rw [rB_3 h4 (in_big hp (by omega)), nI_clamp (by omega), hf m hp]
    have e5 := fun ty fin Y => hS5 (fv := fv) (ty := ty) (fin := fin) (Y := Y) g
    have q2 := hQ2 (fv := fv) g hp
    have r3 := h2_3 g hp
    have r1 := h2_1 g hp
    rw [(hE m hp).1] at r1
    have hEm := (hE m hp).2
    have em := m1_n (k := m)
    have keep : bW M E (n 2) v m w → ∃ w', bW M E (n 2) v 0 w' ∧ xe (ixP fv) (d + 9) 135 725 [some (.ref s), some (.ref b), some (.ref o2), some (.int y3), some (.ref (o4)), some (.int (nI v)), some (.int (w)), some (.int (nI m)), l8, l9] [] H = xe (ixP fv) (d + 9) 135 731 [some (.ref s), some (.ref b), some (.ref o2), some (.int y3), some (.ref (o4)), some (.int (nI v)), some (.int (w')), some (.int (nI 0 - 1)), l8, l9] [] H := fun hw' => by
      obtain ⟨w', i1, i2⟩ := s_wi g hE h4 hf m w (by omega) hw'
      refine ⟨w', i1, Eq.trans ?_ i2⟩
      simp only [q135_725 (x := nI m), q135_728, i10, eq_self, ft0, ft1, b01_ft, k1r, k1i, xG_some, xH_some, xC_v, xC_n, if_true, if_false, not_true_eq_false, not_false_eq_true, ix_st, ix_st2, List.getElem?_cons_succ, List.getElem?_cons_zero, List.set_cons_succ, List.set_cons_zero, Value.category, List.map_cons, List.map_nil, List.sum_cons, List.sum_nil, Nat.reduceAdd, Nat.reduceLeDiff, Nat.reduceEqDiff, Nat.zero_le, reduceCtorEq, ↓reduceIte, eq_self, xit, em]
    by_cases ht : tdB M E (n 2) v m = true
    · have hc : ¬ cdB M E (n 2) v m = true := by
        unfold cdB
        rw [ht]
        cases stB M m <;> decide
      have hw' : bW M E (n 2) v m w := by
        rcases hw with ⟨e, h⟩ | ⟨a, h1, h2, h3, h4, h5⟩
        · exact Or.inl ⟨e, fun q hq hqN => by
            by_cases e : q = m
            · subst e; exact hc
            · exact h q (by omega) hqN⟩
        · exact Or.inr ⟨a, by omega, h2, h3, h4, fun q hq hqN hcq hne => by
            by_cases e : q = m
            · subst e; exact absurd hcq hc
            · exact h5 q (by omega) hqN hcq hne⟩
      obtain ⟨w', i1, i2⟩ := keep hw'
      refine ⟨w', i1, Eq.trans ?_ i2⟩
      rw [ht] at eb
      have eb : rB H o4 (nI m) = some (.int 1) := eb
      simp only [q135_670 (x := nI m), q135_672, q135_675, q135_677, q135_679, q135_680, i10, eq_self, ft0, ft1, b01_ft, k1r, k1i, xG_some, xH_some, xC_v, xC_n, if_true, if_false, not_true_eq_false, not_false_eq_true, ix_st, ix_st2, List.getElem?_cons_succ, List.getElem?_cons_zero, List.set_cons_succ, List.set_cons_zero, Value.category, List.map_cons, List.map_nil, List.sum_cons, List.sum_nil, Nat.reduceAdd, Nat.reduceLeDiff, Nat.reduceEqDiff, Nat.zero_le, reduceCtorEq, ↓reduceIte, eq_self, xit, c1, eb]
    · have ht : tdB M E (n 2) v m = false := by
        cases h : tdB M E (n 2) v m with
        | true => exact absurd h ht
        | false => rfl
      rw [ht] at eb
      have eb : rB H o4 (nI m) = some (.int 0) := eb
      by_cases hg : M 2 m 3 = 0
      · have hc : cdB M E (n 2) v m = true := by
          unfold cdB stB
          rw [ht, decide_eq_true hg]
          rfl
        rw [hg] at r3
        rcases hw with ⟨e, h⟩ | ⟨a, h1, h2, h3, h4', h5⟩
        · have hw' : bW M E (n 2) v m (nI m) := Or.inr ⟨m, Nat.le_refl _, hp, rfl, hc, fun q hq hqN hcq hne => absurd hcq (h q (by omega) hqN)⟩
          obtain ⟨w', i1, i2⟩ := s_wi g hE h4 hf m (nI m) (by omega) hw'
          refine ⟨w', i1, Eq.trans ?_ i2⟩
          have c2 : w < 0 := by rw [e]; decide
          simp only [q135_670 (x := nI m), q135_672, q135_675, q135_677, q135_679, q135_680, q135_683, q135_684, q135_687, q135_689, q135_690, q135_691, q135_692, q135_695, q135_697, q135_721, q135_723, q135_725 (x := nI m), q135_728, i10, eq_self, ft0, ft1, b01_ft, k1r, k1i, xG_some, xH_some, xC_v, xC_n, if_true, if_false, not_true_eq_false, not_false_eq_true, ix_st, ix_st2, List.getElem?_cons_succ, List.getElem?_cons_zero, List.set_cons_succ, List.set_cons_zero, Value.category, List.map_cons, List.map_nil, List.sum_cons, List.sum_nil, Nat.reduceAdd, Nat.reduceLeDiff, Nat.reduceEqDiff, Nat.zero_le, reduceCtorEq, ↓reduceIte, eq_self, xit, c1, eb, e5, q2, r3, c2, em]
        · have c2 : ¬ w < 0 := by rw [h3]; exact nI_pos (by omega)
          have q2' := hQ2 (fv := fv) g h2
          have r1' := h2_1 g h2
          rw [(hE a h2).1] at r1'
          have hEa := (hE a h2).2
          rw [← h3] at q2'
          by_cases c3 : E m < E a
          · have c4 : nI (E m) < nI (E a) := nI_lt c3 (by omega)
            have hw' : bW M E (n 2) v m w := Or.inr ⟨a, by omega, h2, h3, h4', fun q hq hqN hcq hne => by
              by_cases e : q = m
              · subst e
                rw [bfB_t]
                exact Or.inl c3
              · exact h5 q (by omega) hqN hcq hne⟩
            obtain ⟨w', i1, i2⟩ := keep hw'
            refine ⟨w', i1, Eq.trans ?_ i2⟩
            simp only [q135_670 (x := nI m), q135_672, q135_675, q135_677, q135_679, q135_680, q135_683, q135_684, q135_687, q135_689, q135_690, q135_691, q135_692, q135_695, q135_697, q135_700, q135_701, q135_704, q135_706, q135_707, q135_708, q135_709, q135_710, q135_713, q135_715, q135_716, q135_717, q135_718, i10, eq_self, ft0, ft1, b01_ft, k1r, k1i, xG_some, xH_some, xC_v, xC_n, if_true, if_false, not_true_eq_false, not_false_eq_true, ix_st, ix_st2, List.getElem?_cons_succ, List.getElem?_cons_zero, List.set_cons_succ, List.set_cons_zero, Value.category, List.map_cons, List.map_nil, List.sum_cons, List.sum_nil, Nat.reduceAdd, Nat.reduceLeDiff, Nat.reduceEqDiff, Nat.zero_le, reduceCtorEq, ↓reduceIte, eq_self, xit, c1, eb, e5, q2, q2', r3, r1, r1', c2, c4]
          · have c4 : ¬ nI (E m) < nI (E a) := nI_nlt (by omega) (by omega)
            have hw' : bW M E (n 2) v m (nI m) := Or.inr ⟨m, Nat.le_refl _, hp, rfl, hc, fun q hq hqN hcq hne => by
              rw [bfB_t]
              by_cases e : q = a
              · subst e
                omega
              · have := h5 q (by omega) hqN hcq e
                rw [bfB_t] at this
                omega⟩
            obtain ⟨w', i1, i2⟩ := s_wi g hE h4 hf m (nI m) (by omega) hw'
            refine ⟨w', i1, Eq.trans ?_ i2⟩
            simp only [q135_670 (x := nI m), q135_672, q135_675, q135_677, q135_679, q135_680, q135_683, q135_684, q135_687, q135_689, q135_690, q135_691, q135_692, q135_695, q135_697, q135_700, q135_701, q135_704, q135_706, q135_707, q135_708, q135_709, q135_710, q135_713, q135_715, q135_716, q135_717, q135_718, q135_721, q135_723, q135_725 (x := nI m), q135_728, i10, eq_self, ft0, ft1, b01_ft, k1r, k1i, xG_some, xH_some, xC_v, xC_n, if_true, if_false, not_true_eq_false, not_false_eq_true, ix_st, ix_st2, List.getElem?_cons_succ, List.getElem?_cons_zero, List.set_cons_succ, List.set_cons_zero, Value.category, List.map_cons, List.map_nil, List.sum_cons, List.sum_nil, Nat.reduceAdd, Nat.reduceLeDiff, Nat.reduceEqDiff, Nat.zero_le, reduceCtorEq, ↓reduceIte, eq_self, xit, c1, eb, e5, q2, q2', r3, r1, r1', c2, c4, em]
      · have hc : ¬ cdB M E (n 2) v m = true := by
          rw [cd_t]
          exact fun h => hg h.1
        have hw' : bW M E (n 2) v m w := by
          rcases hw with ⟨e, h⟩ | ⟨a, h1, h2, h3, h4, h5⟩
          · exact Or.inl ⟨e, fun q hq hqN => by
              by_cases e : q = m
              · subst e; exact hc
              · exact h q (by omega) hqN⟩
          · exact Or.inr ⟨a, by omega, h2, h3, h4, fun q hq hqN hcq hne => by
              by_cases e : q = m
              · subst e; exact absurd hcq hc
              · exact h5 q (by omega) hqN hcq hne⟩
        obtain ⟨w', i1, i2⟩ := keep hw'
        refine ⟨w', i1, Eq.trans ?_ i2⟩
        simp only [q135_670 (x := nI m), q135_672, q135_675, q135_677, q135_679, q135_680, q135_683, q135_684, q135_687, q135_689, q135_690, q135_691, q135_692, i10, eq_self, ft0, ft1, b01_ft, k1r, k1i, xG_some, xH_some, xC_v, xC_n, if_true, if_false, not_true_eq_false, not_false_eq_true, ix_st, ix_st2, List.getElem?_cons_succ, List.getElem?_cons_zero, List.set_cons_succ, List.set_cons_zero, Value.category, List.map_cons, List.map_nil, List.sum_cons, List.sum_nil, Nat.reduceAdd, Nat.reduceLeDiff, Nat.reduceEqDiff, Nat.zero_le, reduceCtorEq, ↓reduceIte, eq_self, xit, c1, eb, e5, q2, r3, hg]
/-- the v-th -/
theorem bW_v (hI : INV Q A M n fb) (hE : ∀ p, p < n 2 → M 2 p 1 = nI (E p) ∧ E p ≤ 1799) (hv : v < cnt (stB M) (n 2)) (hw : bW M E (n 2) v 0 w) : ∃ a, a < n 2 ∧ w = nI a ∧ piL Q A (nI v) = nI a ∧ M 2 a 3 = 0 ∧ rkB M E (n 2) a = v := by
  obtain ⟨e, he, h1, h2, h3⟩ := pi_n hI hE hv
  have hc : cdB M E (n 2) v e = true := by rw [cd_t]; exact ⟨h2, by omega⟩
  rcases hw with ⟨-, h⟩ | ⟨a, -, ha, hw, hca, h⟩
  · exact absurd hc (h e (Nat.zero_le _) he)
  · have : e = a := by
      by_cases c : e = a
      · exact c
      · have hb := h e (Nat.zero_le _) he hc c
        rw [cd_t] at hca
        have hlt := rk_lt (M := M) ha (decide_eq_true hca.1) (b := e) hb
        omega
    subst this
    exact ⟨e, ha, hw, h1, h2, h3⟩
theorem s_wo (hE : ∀ p, p < n 2 → M 2 p 1 = nI (E p) ∧ E p ≤ 1799) (ho : t2 + 10 ≤ o4) : ∀ (r v : Nat) (H : ix_H) (f : Nat → Int32) (l6 l7 : Option Value), v + r = cnt (stB M) (n 2) → HI H b tp rd pl t t2 tb lea len Q A Z s K X D n M fb → H[o4]? = some (.inl (3, n 2, .inl f)) → (∀ p, p < n 2 → f p = b01 (tdB M E (n 2) v p)) → ∃ H' v' l6' l7', HI H' b tp rd pl t t2 tb lea len Q A Z s K X D n M fb ∧ H'.length = H.length ∧ ix_sz H' = ix_sz H ∧ xe (ixP fv) (d + 9) 135 643 [some (.ref s), some (.ref b), some (.ref o2), some (.int y3), some (.ref (o4)), some (.int (nI v)), l6, l7, l8, l9] [] H = xe (ixP fv) (d + 9) 135 756 [some (.ref s), some (.ref b), some (.ref o2), some (.int y3), some (.ref (o4)), some (.int (nI v')), l6', l7', l8, l9] [] H'
  | 0, v, H, f, l6, l7, e, g, h4, hf => by
    have hn := HI_n g
    have hm := cnt_m (P := stB M) (n 2)
    have n2 := hL2 (fv := fv) g
    have e5 := fun ty fin Y => hS5 (fv := fv) (ty := ty) (fin := fin) (Y := Y) g
    have m3 := fun d => hm133 (fv := fv) (d := d) g
    have es := st_n g.2.1
    have c1 : nI (cnt (stB M) (n 2)) ≤ nI v := nI_le (by omega) (by omega)
    refine ⟨H, v, l6, l7, g, rfl, rfl, ?_⟩
    simp only [q135_643 (x := nI v), q135_645, q135_646, q135_649, q135_650, q135_651, q135_654, q135_655, i10, eq_self, ft0, ft1, b01_ft, k1r, k1i, xG_some, xH_some, xC_v, xC_n, if_true, if_false, not_true_eq_false, not_false_eq_true, ix_st, ix_st2, List.getElem?_cons_succ, List.getElem?_cons_zero, List.set_cons_succ, List.set_cons_zero, Value.category, List.map_cons, List.map_nil, List.sum_cons, List.sum_nil, Nat.reduceAdd, Nat.reduceLeDiff, Nat.reduceEqDiff, Nat.zero_le, reduceCtorEq, ↓reduceIte, eq_self, xit, n2, e5, m3, es, c1, HI_isS g]
  | r + 1, v, H, f, l6, l7, e, g, h4, hf => by
    obtain ⟨a1, a2, a3, a4, a5, a6⟩ := HW_lt g.1
    have hn := HI_n g
    have hm := cnt_m (P := stB M) (n 2)
    have hv : v < cnt (stB M) (n 2) := by omega
    have n2 := hL2 (fv := fv) g
    have e5 := fun ty fin Y => hS5 (fv := fv) (ty := ty) (fin := fin) (Y := Y) g
    have m3 := fun d => hm133 (fv := fv) (d := d) g
    have es := st_n g.2.1
    have c1 : ¬ nI (cnt (stB M) (n 2)) ≤ nI v := nI_ge hv (by omega)
    have s0 : xe (ixP fv) (d + 9) 135 643 [some (.ref s), some (.ref b), some (.ref o2), some (.int y3), some (.ref (o4)), some (.int (nI v)), l6, l7, l8, l9] [] H = xe (ixP fv) (d + 9) 135 670 [some (.ref s), some (.ref b), some (.ref o2), some (.int y3), some (.ref (o4)), some (.int (nI v)), some (.int (-1)), some (.int (nI (n 2) - 1)), l8, l9] [] H := by
      simp only [q135_643 (x := nI v), q135_645, q135_646, q135_649, q135_650, q135_651, q135_654, q135_655, q135_658, q135_659, q135_661, q135_662, q135_665, q135_666, q135_667, q135_668, i10, eq_self, ft0, ft1, b01_ft, k1r, k1i, xG_some, xH_some, xC_v, xC_n, if_true, if_false, not_true_eq_false, not_false_eq_true, ix_st, ix_st2, List.getElem?_cons_succ, List.getElem?_cons_zero, List.set_cons_succ, List.set_cons_zero, Value.category, List.map_cons, List.map_nil, List.sum_cons, List.sum_nil, Nat.reduceAdd, Nat.reduceLeDiff, Nat.reduceEqDiff, Nat.zero_le, reduceCtorEq, ↓reduceIte, eq_self, xit, n2, e5, m3, es, c1, HI_isS g]
    obtain ⟨w', i1, s1⟩ := s_wi (fv := fv) (d := d) (o2 := o2) (y3 := y3) (l8 := l8) (l9 := l9) g hE h4 hf (n 2) (-1) (Nat.le_refl _) (Or.inl ⟨rfl, fun q h1 h2 => by omega⟩)
    obtain ⟨a, ha, ew, ep, hg, hr⟩ := bW_v g.2.1 hE hv i1
    subst ew
    have eW := wB_3 (fv := fv) (v := 1) h4 (by omega) ft1 (in_big ha (by omega))
    rw [nI_clamp (by omega)] at eW
    have g1 : HI (H.set o4 (.inl (3, n 2, .inl (upd f a 1)))) b tp rd pl t t2 tb lea len Q A Z s K X D n M fb := HI_set g ho
    have e1 := fun d => hw99 (fv := fv) (d := d) (v := v) g1 hv (by omega)
    rw [ep] at e1
    have ev : nI v + 1 = nI (v + 1) := nI_add v 1
    have s2 : xe (ixP fv) (d + 9) 135 731 [some (.ref s), some (.ref b), some (.ref o2), some (.int y3), some (.ref (o4)), some (.int (nI v)), some (.int (nI a)), some (.int (nI 0 - 1)), l8, l9] [] H = xe (ixP fv) (d + 9) 135 643 [some (.ref s), some (.ref b), some (.ref o2), some (.int y3), some (.ref (o4)), some (.int (nI (v + 1))), some (.int (nI a)), some (.int (nI 0 - 1)), l8, l9] [] (H.set o4 (.inl (3, n 2, .inl (upd f a 1)))) := by
      simp only [q135_731, q135_733, q135_735, q135_736, q135_737, q135_738, q135_740, q135_743, q135_745, q135_748, q135_749 (st := []), q135_750, q135_753, i10, eq_self, ft0, ft1, b01_ft, k1r, k1i, xG_some, xH_some, xC_v, xC_n, if_true, if_false, not_true_eq_false, not_false_eq_true, ix_st, ix_st2, List.getElem?_cons_succ, List.getElem?_cons_zero, List.set_cons_succ, List.set_cons_zero, Value.category, List.map_cons, List.map_nil, List.sum_cons, List.sum_nil, Nat.reduceAdd, Nat.reduceLeDiff, Nat.reduceEqDiff, Nat.zero_le, reduceCtorEq, ↓reduceIte, eq_self, xit, eW, e1, ev, HI_is g1]
    obtain ⟨H', v', l6', l7', g2, z1, z2, s3⟩ := s_wo hE ho r (v + 1) _ (upd f a 1) (some (.int (nI a))) (some (.int (nI 0 - 1))) (by omega) g1 (get_set h4) (fun p hp => by
      by_cases c : p = a
      · subst c
        rw [upd_eq]
        unfold tdB stB
        rw [decide_eq_true hg, hr, decide_eq_true (Nat.lt_succ_self v)]
        rfl
      · rw [upd_ne c, hf p hp]
        congr 1
        unfold tdB stB
        by_cases hp3 : M 2 p 3 = 0
        · congr 1
          have : rkB M E (n 2) p ≠ v := fun e => c (rk_inj hp ha (decide_eq_true hp3) (decide_eq_true hg) (e.trans hr.symm))
          exact decide_eq_decide.mpr (by omega)
        · rw [decide_eq_false hp3, Bool.false_and, Bool.false_and])
    exact ⟨H', v', l6', l7', g2, z1.trans List.length_set, z2.trans (set_sz h4 rfl), s0.trans (s1.trans (s2.trans s3))⟩
/-- the mean -/
theorem s_me (g : HI H b tp rd pl t t2 tb lea len Q A Z s K X D n M fb) (hl : l8 = l8) : xe (ixP fv) (d + 9) 135 756 [some (.ref s), some (.ref b), some (.ref o2), some (.int y3), some (.ref (o4)), some (.int (w)), l6, l7, l8, l9] [] H = some (.inl (some (.int 1)), H) := by
  have em := fun d => hw110 (fv := fv) (d := d) g
  have m2 := fun d => hm132 (fv := fv) (d := d) g
  have m3 := fun d => hm133 (fv := fv) (d := d) g
  have n2 := hL2 (fv := fv) g
  have e5 := fun ty fin Y => hS5 (fv := fv) (ty := ty) (fin := fin) (Y := Y) g
  obtain ⟨k1, k2, k3⟩ := me_law g.2.1
  by_cases c : sGn M n = nI (n 2)
  · rw [k2 c] at k1 em
    simp only [q135_756, q135_757, q135_760, q135_761, q135_764, q135_765, q135_768, q135_769, q135_772, q135_773, q135_776, q135_777, q135_780, q135_781, q135_782, q135_785, q135_786, q135_787, q135_790, q135_791, q135_793, q135_794, q135_797, q135_798, q135_801, q135_802 (st := []), i10, eq_self, ft0, ft1, b01_ft, k1r, k1i, xG_some, xH_some, xC_v, xC_n, if_true, if_false, not_true_eq_false, not_false_eq_true, ix_st, ix_st2, List.getElem?_cons_succ, List.getElem?_cons_zero, List.set_cons_succ, List.set_cons_zero, Value.category, List.map_cons, List.map_nil, List.sum_cons, List.sum_nil, Nat.reduceAdd, Nat.reduceLeDiff, Nat.reduceEqDiff, Nat.zero_le, reduceCtorEq, ↓reduceIte, eq_self, xit, em, m2, m3, n2, e5, HI_is g, HI_isS g, c, k1]
  · obtain ⟨k4, k5⟩ := k3 c
    rw [k4] at k1 em
    simp only [q135_756, q135_757, q135_760, q135_761, q135_764, q135_765, q135_768, q135_769, q135_772, q135_773, q135_776, q135_777, q135_780, q135_781, q135_782, q135_785, q135_786, q135_787, q135_790, q135_791, q135_793, q135_794, q135_797, q135_798, q135_801, q135_802 (st := []), q135_792 k5, i10, eq_self, ft0, ft1, b01_ft, k1r, k1i, xG_some, xH_some, xC_v, xC_n, if_true, if_false, not_true_eq_false, not_false_eq_true, ix_st, ix_st2, List.getElem?_cons_succ, List.getElem?_cons_zero, List.set_cons_succ, List.set_cons_zero, Value.category, List.map_cons, List.map_nil, List.sum_cons, List.sum_nil, Nat.reduceAdd, Nat.reduceLeDiff, Nat.reduceEqDiff, Nat.zero_le, reduceCtorEq, ↓reduceIte, eq_self, xit, em, m2, m3, n2, e5, HI_is g, HI_isS g, c, k1]
end LAWS5
