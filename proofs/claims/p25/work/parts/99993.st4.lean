/-! THE START: the list, all bays, panes (written by gen99993.py). -/
section ST4
variable {fv : Value} {d : Nat} {h h' : ix_H} {o v v' s q w k m t r N : Nat} {xs : Nat → Int32} {l l' : List Int32} {X X' : Nat → Nat} {D D' : Nat → Nat → Nat} {n c : Nat → Nat} {M : Mm} {l5 l6 l7 l8 l9 l10 : Option Value} {b : Nat}
theorem tx1_len : (tx1 (cel xs N) l k).length ≤ l.length + 29 := by
  have := dgt_len (n := k)
  have := dgt_len (n := pB (cel xs N) k)
  have := dgt_len (n := tB (cel xs N) k)
  unfold tx1
  simp only [List.length_append, lK29, lK30, lK31, lK32]
  omega
theorem t1_all (hn : n 1 ≤ 4) (hN : N ≤ 300) : ∀ (r k : Nat) (h : ix_H) (v : Nat) (l : List Int32) (D : Nat → Nat → Nat) (c : Nat → Nat) (l5 : Option Value), k + r = n 1 → LB N xs h o v l s X D n c (WM (cel xs N)) → c 1 = k → l.length ≤ 29 * k → ∃ h' v' D' c' l5', LB N xs h' o v' (itr (fun k l => tx1 (cel xs N) l k) k r l) s X D' n c' (WM (cel xs N)) ∧ c' 1 = n 1 ∧ (itr (fun k l => tx1 (cel xs N) l k) k r l).length ≤ 29 * n 1 ∧ h'.length ≤ h.length + 20 * r ∧ ix_sz h' ≤ ix_sz h + 60000 * r ∧ xe (ixP fv) (d + 9) 172 31 [some (.ref 0), some (.ref (o)), some (.ref (s)), some (.int (nI (fS (cel xs N) k))), some (.int (nI k)), l5, l6, l7, l8, l9, l10] [] h = xe (ixP fv) (d + 9) 172 173 [some (.ref 0), some (.ref (o)), some (.ref (s)), some (.int (nI (fS (cel xs N) (n 1)))), some (.int (nI (n 1))), l5', l6, l7, l8, l9, l10] [] h'
  | 0, k, h, v, l, D, c, l5, e, g, hc, hl => by
    have : k = n 1 := by omega
    subst this
    have hf := fun ty fin Y => LB_f1 (fv := fv) (ty := ty) (fin := fin) (Y := Y) g
    have hn1 := LB_n (fv := fv) (t := 1) g (by decide) (by decide)
    have hc1 : nI (n 1) ≤ nI (n 1) := Int32.le_refl _
    refine ⟨h, v, D, c, l5, g, hc, hl, Nat.le_refl _, Nat.le_refl _, ?_⟩
    simp only [q172_31 (x := nI (n 1)), q172_33, q172_34, q172_37, q172_38, i10, eq_self, ft0, ft1, b01_ft, k1r, k1i, xG_some, xH_some, xC_v, xC_n, if_true, if_false, not_true_eq_false, not_false_eq_true, ix_st, ix_st2, List.getElem?_cons_succ, List.getElem?_cons_zero, List.set_cons_succ, List.set_cons_zero, Value.category, List.map_cons, List.map_nil, List.sum_cons, List.sum_nil, Nat.reduceAdd, Nat.reduceLeDiff, Nat.reduceEqDiff, Nat.zero_le, reduceCtorEq, ↓reduceIte, eq_self, xit, hf, hn1, hc1]
  | r + 1, k, h, v, l, D, c, l5, e, g, hc, hl => by
    obtain ⟨h1, v1, D1, g1, z1, y1, e1⟩ := t1_step (fv := fv) (d := d) (l5 := l5) (l6 := l6) (l7 := l7) (l8 := l8) (l9 := l9) (l10 := l10) g hc (by omega) hn hN (by omega)
    obtain ⟨h2, v2, D2, c2, m5, g2, q2, p2, z2, y2, e2⟩ := t1_all hn hN r (k + 1) h1 v1 (tx1 (cel xs N) l k) D1 (upT c 1 (k + 1)) (some (.int (sB (cel xs N) k))) (by omega) g1 upT_e (by have := tx1_len (k := k) (l := l) (N := N) (xs := xs); omega)
    exact ⟨h2, v2, D2, c2, m5, g2, q2, p2, by omega, by omega, e1.trans e2⟩
/-- the bay of a pane -/
theorem bO_eq {ce : Nat → Int32} {p : Nat} (h1 : fS ce b ≤ p) (h2 : p < fS ce (b + 1)) : ∀ m, b < m → bO ce p m = b
  | 0, h => absurd h (Nat.not_lt_zero _)
  | m + 1, h => by
    show (if fS ce m ≤ p then m else bO ce p m) = b
    by_cases e : m = b
    · subst e
      rw [if_pos h1]
    · have mono : ∀ j, fS ce (b + 1) ≤ fS ce (b + 1 + j) := by
        intro j
        induction j with
        | zero => exact Nat.le_refl _
        | succ j ih => exact Nat.le_trans ih (Nat.le_add_right _ _)
      have := mono (m - (b + 1))
      rw [show b + 1 + (m - (b + 1)) = m by omega] at this
      rw [if_neg (by omega)]
      exact bO_eq h1 h2 m (by omega)
theorem fS_mono {ce : Nat → Int32} : ∀ j b, fS ce b ≤ fS ce (b + j)
  | 0, _ => Nat.le_refl _
  | j + 1, b => Nat.le_trans (fS_mono j b) (Nat.le_add_right _ _)
theorem t2_in (hb : b < n1 (cel xs N)) (h1 : n 1 = n1 (cel xs N)) (h2 : n 2 = n2 (cel xs N)) : ∀ (r k : Nat) (h : ix_H) (D : Nat → Nat → Nat) (c : Nat → Nat), k + r = pB (cel xs N) b → LB N xs h o v l s X D n c (WM (cel xs N)) → c 1 = n1 (cel xs N) → c 2 = fS (cel xs N) b + k → ∃ h' D' c', LB N xs h' o v l s X D' n c' (WM (cel xs N)) ∧ c' 1 = n1 (cel xs N) ∧ c' 2 = fS (cel xs N) (b + 1) ∧ h'.length ≤ h.length + r ∧ ix_sz h' ≤ ix_sz h + 4 * r ∧ xe (ixP fv) (d + 9) 172 200 [some (.ref 0), some (.ref (o)), some (.ref (s)), some (.int (nI (n2 (cel xs N)))), some (.int (nI b)), some (.int (nI (fS (cel xs N) b + k))), some (.int (nI (k))), l7, l8, l9, l10] [] h = xe (ixP fv) (d + 9) 172 250 [some (.ref 0), some (.ref (o)), some (.ref (s)), some (.int (nI (n2 (cel xs N)))), some (.int (nI b)), some (.int (nI (fS (cel xs N) (b + 1)))), some (.int (nI (pB (cel xs N) b))), l7, l8, l9, l10] [] h'
  | 0, k, h, D, c, e, g, c1, c2 => by
    have : k = pB (cel xs N) b := by omega
    subst this
    have pb := pB_b (ce := (cel xs N)) (b := b)
    have hf := fun ty fin Y => LB_f1 (fv := fv) (ty := ty) (fin := fin) (Y := Y) g
    have hq := LB_q (fv := fv) (t := 1) (r := b) g (by decide) (by decide) (by omega)
    have ha : rA h (D 1 b) 0 = some (.int (nI (pB (cel xs N) b))) := LB_a (t := 1) (r := b) (m := 0) g (by decide) (by decide) (by omega) (by decide)
    have hc1 : nI (pB (cel xs N) b) ≤ nI (pB (cel xs N) b) := Int32.le_refl _
    refine ⟨h, D, c, g, c1, c2, Nat.le_refl _, Nat.le_refl _, ?_⟩
    simp only [q172_200 (x := nI (pB (cel xs N) b)), q172_202, q172_203, q172_206, q172_208, q172_209, q172_210, q172_211, i10, eq_self, ft0, ft1, b01_ft, k1r, k1i, xG_some, xH_some, xC_v, xC_n, if_true, if_false, not_true_eq_false, not_false_eq_true, ix_st, ix_st2, List.getElem?_cons_succ, List.getElem?_cons_zero, List.set_cons_succ, List.set_cons_zero, Value.category, List.map_cons, List.map_nil, List.sum_cons, List.sum_nil, Nat.reduceAdd, Nat.reduceLeDiff, Nat.reduceEqDiff, Nat.zero_le, reduceCtorEq, ↓reduceIte, eq_self, xit, hf, hq, ha, hc1]
    rfl
  | r + 1, k, h, D, c, e, g, c1, c2 => by
    have pb := pB_b (ce := (cel xs N)) (b := b)
    have fb := fS_b (ce := (cel xs N)) b
    have n1b := n1_b (ce := (cel xs N))
    have mono := fS_mono (ce := (cel xs N)) (n1 (cel xs N) - (b + 1)) (b + 1)
    rw [show b + 1 + (n1 (cel xs N) - (b + 1)) = n1 (cel xs N) by omega] at mono
    have hp : fS (cel xs N) b + k < n 2 := by
      rw [h2]
      show _ < fS (cel xs N) (n1 (cel xs N))
      have : fS (cel xs N) (b + 1) = fS (cel xs N) b + pB (cel xs N) b := rfl
      omega
    have hM : WM (cel xs N) 2 (fS (cel xs N) b + k) = (upd (upd (upd (upd (fun _ => 0) 0 (nI b)) 1 0) 2 0) 3 0) := by
      show upd (upd (upd (upd (fun _ => 0) 0 (nI (bO (cel xs N) (fS (cel xs N) b + k) (n1 (cel xs N))))) 1 0) 2 0) 3 0 = _
      rw [bO_eq (b := b) (by omega) (show _ < fS (cel xs N) b + pB (cel xs N) b by omega) (n1 (cel xs N)) hb]
    obtain ⟨h3, eW, g3, z3, y3⟩ : ∃ h3, wQ (ixP fv) (h ++ [.inl (0, 4, .inl (upd (upd (upd (upd (fun _ => 0) 0 (nI b)) 1 0) 2 0) 3 0))]) (X 2) (nI (fS (cel xs N) b + k)) h.length = some h3 ∧ LB N xs h3 o v l s X (upR D 2 (fS (cel xs N) b + k) h.length) n (upT c 2 (fS (cel xs N) b + k + 1)) (WM (cel xs N)) ∧ h3.length = h.length + 1 ∧ ix_sz h3 = ix_sz h + 4 := by
      have hx := LB_row (fv := fv) g (t := 2) (r := fS (cel xs N) b + k) (by decide) (by decide) c2 hp
      rw [hM] at hx
      exact ⟨_, hx.1, hx.2, LB_row2 g (by decide) (by decide)⟩
    have hf := fun ty fin Y => LB_f1 (fv := fv) (ty := ty) (fin := fin) (Y := Y) g
    have hf2 := fun (F : Nat → Int32) ty fin Y => LB_f2 (fv := fv) (ty := ty) (fin := fin) (Y := Y) (LB_push g (x := .inl (0, 4, .inl F)))
    have hf20 := fun ty fin Y => LB_f2 (fv := fv) (ty := ty) (fin := fin) (Y := Y) g
    have hq := LB_q (fv := fv) (t := 1) (r := b) g (by decide) (by decide) (by omega)
    have ha : rA h (D 1 b) 0 = some (.int (nI (pB (cel xs N) b))) := LB_a (t := 1) (r := b) (m := 0) g (by decide) (by decide) (by omega) (by decide)
    have hc1 : ¬ nI (pB (cel xs N) b) ≤ nI k := nI_ge (by omega) (by omega)
    have w0 : ∀ (F : Nat → Int32) (x : Int32), wA (ixP fv) (h ++ [.inl (0, 4, .inl F)]) h.length 0 x = some (h ++ [.inl (0, 4, .inl (upd F 0 x))]) := fun F x => wE (j := 0) g.2.2.1 (by decide) (by decide)
    have w1 : ∀ (F : Nat → Int32) (x : Int32), wA (ixP fv) (h ++ [.inl (0, 4, .inl F)]) h.length 1 x = some (h ++ [.inl (0, 4, .inl (upd F 1 x))]) := fun F x => wE (j := 1) g.2.2.1 (by decide) (by decide)
    have w2 : ∀ (F : Nat → Int32) (x : Int32), wA (ixP fv) (h ++ [.inl (0, 4, .inl F)]) h.length 2 x = some (h ++ [.inl (0, 4, .inl (upd F 2 x))]) := fun F x => wE (j := 2) g.2.2.1 (by decide) (by decide)
    have w3 : ∀ (F : Nat → Int32) (x : Int32), wA (ixP fv) (h ++ [.inl (0, 4, .inl F)]) h.length 3 x = some (h ++ [.inl (0, 4, .inl (upd F 3 x))]) := fun F x => wE (j := 3) g.2.2.1 (by decide) (by decide)
    have kk : (4 : Int32).toNatClampNeg = 4 := nI_clamp (n := 4) (by decide)
    have bb : ix_big 4 = true := bg (m := 4) (by decide)
    have ek : nI k + 1 = nI (k + 1) := nI_add k 1
    have ep : nI (fS (cel xs N) b + k) + 1 = nI (fS (cel xs N) b + (k + 1)) := nI_add _ 1
    obtain ⟨h4, D4, c4, g4, q1, q2, z4, y4, e4⟩ := t2_in hb h1 h2 r (k + 1) h3 (upR D 2 (fS (cel xs N) b + k) h.length) (upT c 2 (fS (cel xs N) b + k + 1)) (by omega) g3 c1 upT_e
    refine ⟨h4, D4, c4, g4, q1, q2, by omega, by omega, Eq.trans ?_ e4⟩
    simp only [q172_200 (x := nI k), q172_202, q172_203, q172_206, q172_208, q172_209, q172_210, q172_211, q172_214, q172_215, q172_218, q172_220, q172_223, q172_224, q172_225, q172_227, q172_228, q172_229, q172_230, q172_231, q172_232, q172_233, q172_234, q172_235, q172_236, q172_237, q172_238, q172_239, q172_240, q172_241, q172_244, q172_247, q172_221 bb, i10, eq_self, ft0, ft1, b01_ft, k1r, k1i, xG_some, xH_some, xC_v, xC_n, if_true, if_false, not_true_eq_false, not_false_eq_true, ix_st, ix_st2, List.getElem?_cons_succ, List.getElem?_cons_zero, List.set_cons_succ, List.set_cons_zero, Value.category, List.map_cons, List.map_nil, List.sum_cons, List.sum_nil, Nat.reduceAdd, Nat.reduceLeDiff, Nat.reduceEqDiff, Nat.zero_le, reduceCtorEq, ↓reduceIte, eq_self, xit, hf, hf2, hf20, hq, ha, hc1, kk, izI, w0, w1, w2, w3, eW, ek, ep]
theorem t2_out (h1 : n 1 = n1 (cel xs N)) (h2 : n 2 = n2 (cel xs N)) : ∀ (r b : Nat) (h : ix_H) (D : Nat → Nat → Nat) (c : Nat → Nat) (l6 : Option Value), b + r = n1 (cel xs N) → LB N xs h o v l s X D n c (WM (cel xs N)) → c 1 = n1 (cel xs N) → c 2 = fS (cel xs N) b → ∃ h' D' c' l6', LB N xs h' o v l s X D' n c' (WM (cel xs N)) ∧ c' 1 = n1 (cel xs N) ∧ c' 2 = n2 (cel xs N) ∧ h'.length ≤ h.length + 8 * r ∧ ix_sz h' ≤ ix_sz h + 32 * r ∧ xe (ixP fv) (d + 9) 172 187 [some (.ref 0), some (.ref (o)), some (.ref (s)), some (.int (nI (n2 (cel xs N)))), some (.int (nI b)), some (.int (nI (fS (cel xs N) b))), l6, l7, l8, l9, l10] [] h = xe (ixP fv) (d + 9) 172 256 [some (.ref 0), some (.ref (o)), some (.ref (s)), some (.int (nI (n2 (cel xs N)))), some (.int (nI (n1 (cel xs N)))), some (.int (nI (n2 (cel xs N)))), l6', l7, l8, l9, l10] [] h'
  | 0, b, h, D, c, l6, e, g, c1, c2 => by
    have : b = n1 (cel xs N) := by omega
    subst this
    have hf := fun ty fin Y => LB_f1 (fv := fv) (ty := ty) (fin := fin) (Y := Y) g
    have hn1 := LB_n (fv := fv) (t := 1) g (by decide) (by decide)
    rw [h1] at hn1
    have hc1 : nI (n1 (cel xs N)) ≤ nI (n1 (cel xs N)) := Int32.le_refl _
    refine ⟨h, D, c, l6, g, c1, c2, Nat.le_refl _, Nat.le_refl _, ?_⟩
    simp only [q172_187 (x := nI (n1 (cel xs N))), q172_189, q172_190, q172_193, q172_194, i10, eq_self, ft0, ft1, b01_ft, k1r, k1i, xG_some, xH_some, xC_v, xC_n, if_true, if_false, not_true_eq_false, not_false_eq_true, ix_st, ix_st2, List.getElem?_cons_succ, List.getElem?_cons_zero, List.set_cons_succ, List.set_cons_zero, Value.category, List.map_cons, List.map_nil, List.sum_cons, List.sum_nil, Nat.reduceAdd, Nat.reduceLeDiff, Nat.reduceEqDiff, Nat.zero_le, reduceCtorEq, ↓reduceIte, eq_self, xit, hf, hn1, hc1]
    rfl
  | r + 1, b, h, D, c, l6, e, g, c1, c2 => by
    have pb := pB_b (ce := (cel xs N)) (b := b)
    have n1b := n1_b (ce := (cel xs N))
    have hf := fun ty fin Y => LB_f1 (fv := fv) (ty := ty) (fin := fin) (Y := Y) g
    have hn1 := LB_n (fv := fv) (t := 1) g (by decide) (by decide)
    rw [h1] at hn1
    have hc1 : ¬ nI (n1 (cel xs N)) ≤ nI b := nI_ge (by omega) (by omega)
    have s0 : xe (ixP fv) (d + 9) 172 187 [some (.ref 0), some (.ref (o)), some (.ref (s)), some (.int (nI (n2 (cel xs N)))), some (.int (nI b)), some (.int (nI (fS (cel xs N) b))), l6, l7, l8, l9, l10] [] h = xe (ixP fv) (d + 9) 172 200 [some (.ref 0), some (.ref (o)), some (.ref (s)), some (.int (nI (n2 (cel xs N)))), some (.int (nI b)), some (.int (nI (fS (cel xs N) b + 0))), some (.int (nI (0))), l7, l8, l9, l10] [] h := by
      simp only [q172_187 (x := nI b), q172_189, q172_190, q172_193, q172_194, q172_197, q172_198, i10, eq_self, ft0, ft1, b01_ft, k1r, k1i, xG_some, xH_some, xC_v, xC_n, if_true, if_false, not_true_eq_false, not_false_eq_true, ix_st, ix_st2, List.getElem?_cons_succ, List.getElem?_cons_zero, List.set_cons_succ, List.set_cons_zero, Value.category, List.map_cons, List.map_nil, List.sum_cons, List.sum_nil, Nat.reduceAdd, Nat.reduceLeDiff, Nat.reduceEqDiff, Nat.zero_le, reduceCtorEq, ↓reduceIte, eq_self, xit, hf, hn1, hc1]
      rfl
    obtain ⟨h3, D3, c3, g3, q1, q2, z3, y3, e3⟩ := t2_in (fv := fv) (d := d) (l7 := l7) (l8 := l8) (l9 := l9) (l10 := l10) (b := b) (by omega) h1 h2 (pB (cel xs N) b) 0 h D c (by omega) g c1 c2
    have eb : nI b + 1 = nI (b + 1) := nI_add b 1
    have s1 : xe (ixP fv) (d + 9) 172 250 [some (.ref 0), some (.ref (o)), some (.ref (s)), some (.int (nI (n2 (cel xs N)))), some (.int (nI b)), some (.int (nI (fS (cel xs N) (b + 1)))), some (.int (nI (pB (cel xs N) b))), l7, l8, l9, l10] [] h3 = xe (ixP fv) (d + 9) 172 187 [some (.ref 0), some (.ref (o)), some (.ref (s)), some (.int (nI (n2 (cel xs N)))), some (.int (nI (b + 1))), some (.int (nI (fS (cel xs N) (b + 1)))), some (.int (nI (pB (cel xs N) b))), l7, l8, l9, l10] [] h3 := by
      simp only [q172_250, q172_253, i10, eq_self, ft0, ft1, b01_ft, k1r, k1i, xG_some, xH_some, xC_v, xC_n, if_true, if_false, not_true_eq_false, not_false_eq_true, ix_st, ix_st2, List.getElem?_cons_succ, List.getElem?_cons_zero, List.set_cons_succ, List.set_cons_zero, Value.category, List.map_cons, List.map_nil, List.sum_cons, List.sum_nil, Nat.reduceAdd, Nat.reduceLeDiff, Nat.reduceEqDiff, Nat.zero_le, reduceCtorEq, ↓reduceIte, eq_self, xit, eb]
    obtain ⟨h4, D4, c4, m6, g4, k1, k2, z4, y4, e4⟩ := t2_out h1 h2 r (b + 1) h3 D3 c3 (some (.int (nI (pB (cel xs N) b)))) (by omega) g3 q1 q2
    exact ⟨h4, D4, c4, m6, g4, k1, k2, by omega, by omega, s0.trans (e3.trans (s1.trans e4))⟩
end ST4
