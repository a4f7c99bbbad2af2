/-! THE START: the list as a whole (written by gen99998.py). -/
/-- how many -/
def nW (ce : Nat → Int32) : Nat → Nat
  | 1 => n1 ce
  | 2 => n2 ce
  | 3 => n3 ce
  | 4 => n4 ce
  | 5 => n5 ce
  | 6 => n6 ce
  | _ => 0
/-- the list's text -/
def TXT (ce : Nat → Int32) : List Int32 := itr (fun k l => tx6 ce l k) 0 (n6 ce) (itr (fun k l => tx5 ce l k) 0 (n5 ce) (itr (fun k l => tx4 ce l k) 0 (n4 ce) (itr (fun k l => tx3 ce l k) 0 (n3 ce) (itr (fun k l => tx1 ce l k) 0 (n1 ce) []))))
section ST9
variable {fv : Value} {d : Nat} {h h' : ix_H} {o v v' s q w k m t r N : Nat} {xs : Nat → Int32} {l l' : List Int32} {X X' : Nat → Nat} {D D' : Nat → Nat → Nat} {n c : Nat → Nat} {M : Mm} {l5 l6 l7 l8 l9 l10 : Option Value} {c' n' : Nat → Nat}
theorem tx6_len : (tx6 (cel xs N) l k).length ≤ l.length + 115 := by
  have := dgt_len (n := wh6 (cel xs N) k)
  have sl := smT_len (a2 := blw (sX (cel xs N) k >>> (4 &&& 31)) 6) (a3 := blw (sX (cel xs N) k >>> (5 &&& 31)) 130) (a6 := blw (sY (cel xs N) k >>> (5 &&& 31)) (n2 (cel xs N) + 2)) (a8 := blw (sX (cel xs N) k >>> (3 &&& 31)) (n4 (cel xs N))) (a9 := blw (sY (cel xs N) k >>> (2 &&& 31)) (n5 (cel xs N)))
  have tl := teT_len (a4 := a46 (cel xs N) k) (a5 := blw (sY (cel xs N) k >>> (3 &&& 31)) 90) (a6 := blw (sY (cel xs N) k >>> (5 &&& 31)) (n2 (cel xs N) + 2)) (a7 := blw (sX (cel xs N) k >>> (6 &&& 31)) (n1 (cel xs N))) (a8 := blw (sX (cel xs N) k >>> (3 &&& 31)) (n4 (cel xs N))) (a9 := blw (sY (cel xs N) k >>> (2 &&& 31)) (n5 (cel xs N)))
  unfold tx6
  cases sc6 (cel xs N) k with
  | true =>
    rw [if_pos rfl]
    simp only [List.length_append, lK44, lK32]
    omega
  | false =>
    rw [if_neg (show ¬ false = true by decide)]
    simp only [List.length_append, lK45, lK46, lK32]
    omega
theorem t6_step (g : LB N xs h o v l s X D n c (WM (cel xs N))) (hc : c 6 = k) (hk : k < n 6) (hn : n 6 ≤ 7) (hN : N ≤ 300) (h1 : n 1 = n1 (cel xs N)) (h4 : n 4 = n4 (cel xs N)) (h5 : n 5 = n5 (cel xs N)) (hl : l.length ≤ 1500) : ∃ h' v' D' m5 m6 m7 m8 m9 m10, LB N xs h' o v' (tx6 (cel xs N) l k) s X D' n (upT c 6 (k + 1)) (WM (cel xs N)) ∧ h'.length ≤ h.length + 90 ∧ ix_sz h' ≤ ix_sz h + 170000 ∧ xe (ixP fv) (d + 9) 172 790 [some (.ref 0), some (.ref (o)), some (.ref (s)), some (.int (nI (n2 (cel xs N)))), some (.int (nI k)), l5, l6, l7, l8, l9, l10] [] h = xe (ixP fv) (d + 9) 172 790 [some (.ref 0), some (.ref (o)), some (.ref (s)), some (.int (nI (n2 (cel xs N)))), some (.int (nI (k + 1))), m5, m6, m7, m8, m9, m10] [] h' := by
  obtain ⟨h2, g2, hr, z2, y2, e2⟩ := t6_row (fv := fv) (d := d) (l5 := l5) (l6 := l6) (l7 := l7) (l8 := l8) (l9 := l9) (l10 := l10) g hc hk hn hN h1 h4 h5
  have up : k < upT c 6 (k + 1) 6 := by rw [upT_e]; exact Nat.lt_succ_self k
  have sl := smT_len (a2 := blw (sX (cel xs N) k >>> (4 &&& 31)) 6) (a3 := blw (sX (cel xs N) k >>> (5 &&& 31)) 130) (a6 := blw (sY (cel xs N) k >>> (5 &&& 31)) (n2 (cel xs N) + 2)) (a8 := blw (sX (cel xs N) k >>> (3 &&& 31)) (n4 (cel xs N))) (a9 := blw (sY (cel xs N) k >>> (2 &&& 31)) (n5 (cel xs N)))
  have dl := dgt_len (n := wh6 (cel xs N) k)
  obtain ⟨h3, v3, g3, z3, y3, e3⟩ := t6_a (fv := fv) (d := d) (a := h.length) (z9 := nI (blw (sY (cel xs N) k) 11) - 3) g2 up upR_e hl
  obtain ⟨h4', v4, g4, z4, y4, e4⟩ := t6_b (fv := fv) (d := d) (a := h.length) (z9 := nI (blw (sY (cel xs N) k) 11) - 3) g3 up upR_e (by
    rw [List.length_append]
    split
    · simp only [List.length_append, lK44]
      omega
    · simp only [List.length_append, lK45, lK46]
      omega)
  exact ⟨h4', v4, _, _, _, _, _, _, _, g4, by omega, by omega, e2.trans (e3.trans e4)⟩
theorem t6_all (hn : n 6 ≤ 7) (hN : N ≤ 300) (h1 : n 1 = n1 (cel xs N)) (h4 : n 4 = n4 (cel xs N)) (h5 : n 5 = n5 (cel xs N)) : ∀ (r k : Nat) (h : ix_H) (v : Nat) (l : List Int32) (D : Nat → Nat → Nat) (c : Nat → Nat) (l5 l6 l7 l8 l9 l10 : Option Value), k + r = n 6 → LB N xs h o v l s X D n c (WM (cel xs N)) → c 6 = k → l.length + 115 * r ≤ 1500 → ∃ h' v' D' c' , LB N xs h' o v' (itr (fun k l => tx6 (cel xs N) l k) k r l) s X D' n c' (WM (cel xs N)) ∧ c' 6 = n 6 ∧ (∀ t', t' ≠ 6 → c' t' = c t') ∧ (itr (fun k l => tx6 (cel xs N) l k) k r l).length ≤ l.length + 115 * r ∧ h'.length ≤ h.length + 90 * r ∧ ix_sz h' ≤ ix_sz h + 170000 * r ∧ xe (ixP fv) (d + 9) 172 790 [some (.ref 0), some (.ref (o)), some (.ref (s)), some (.int (nI (n2 (cel xs N)))), some (.int (nI k)), l5, l6, l7, l8, l9, l10] [] h = some (.inl (some (.ref s)), h')
  | 0, k, h, v, l, D, c, l5, l6, l7, l8, l9, l10, e, g, hc, hl => by
    have : k = n 6 := by omega
    subst this
    have hf := fun ty fin Y => LB_f6 (fv := fv) (ty := ty) (fin := fin) (Y := Y) g
    have hn1 := LB_n (fv := fv) (t := 6) g (by decide) (by decide)
    have hc1 : nI (n 6) ≤ nI (n 6) := Int32.le_refl _
    refine ⟨h, v, D, c, g, hc, fun _ _ => rfl, Nat.le_refl _, Nat.le_refl _, Nat.le_refl _, ?_⟩
    simp only [q172_790 (x := nI (n 6)), q172_792, q172_793, q172_796, q172_797, q172_1138, q172_1139 (st := []), i10, eq_self, ft0, ft1, b01_ft, k1r, k1i, xG_some, xH_some, xC_v, xC_n, if_true, if_false, not_true_eq_false, not_false_eq_true, ix_st, ix_st2, List.getElem?_cons_succ, List.getElem?_cons_zero, List.set_cons_succ, List.set_cons_zero, Value.category, List.map_cons, List.map_nil, List.sum_cons, List.sum_nil, Nat.reduceAdd, Nat.reduceLeDiff, Nat.reduceEqDiff, Nat.zero_le, reduceCtorEq, ↓reduceIte, eq_self, xit, hf, hn1, hc1]
  | r + 1, k, h, v, l, D, c, l5, l6, l7, l8, l9, l10, e, g, hc, hl => by
    have tl := tx6_len (k := k) (l := l) (N := N) (xs := xs)
    obtain ⟨h1', v1, D1, m5, m6, m7, m8, m9, m10, g1, z1, y1, e1⟩ := t6_step (fv := fv) (d := d) (l5 := l5) (l6 := l6) (l7 := l7) (l8 := l8) (l9 := l9) (l10 := l10) g hc (by omega) hn hN h1 h4 h5 (by omega)
    obtain ⟨h2, v2, D2, c2, g2, q2, q3, p2, z2, y2, e2⟩ := t6_all hn hN h1 h4 h5 r (k + 1) h1' v1 (tx6 (cel xs N) l k) D1 (upT c 6 (k + 1)) m5 m6 m7 m8 m9 m10 (by omega) g1 upT_e (by omega)
    exact ⟨h2, v2, D2, c2, g2, q2, fun t' ht => (q3 t' ht).trans (if_neg ht), Nat.le_trans p2 (by omega), by omega, by omega, e1.trans e2⟩
theorem LB_cong (g : LB N xs h o v l s X D n c (WM (cel xs N))) (hc : ∀ t, 1 ≤ t → t ≤ 6 → c t = c' t) (hn : ∀ t, 1 ≤ t → t ≤ 6 → n t = n' t) : LB N xs h o v l s X D n' c' (WM (cel xs N)) := by
  obtain ⟨g1, g2, g3, g4, g6, g7, g8, g9⟩ := g
  refine ⟨g1, g2, g3, g4, fun t h1 h6 => ?_, fun t r h1 h6 hr => g7 t r h1 h6 (by rw [hc t h1 h6]; exact hr), fun t r t' r' h1 h6 hr j1 j6 hr' e => g8 t r t' r' h1 h6 (by rw [hc t h1 h6]; exact hr) j1 j6 (by rw [hc t' j1 j6]; exact hr') e, g9⟩
  rw [← hc t h1 h6, ← hn t h1 h6]
  exact g6 t h1 h6
/-- the fresh Sim's state -/
theorem LB_0 (g : isSB h o v []) (hO : OK N xs h) (h98 : 98 ≤ h.length) : LB N xs (h ++ [.inr (7, [.int 0, .int 0, .int 0, .int (-1), .ref (h.length + 1), .ref (h.length + 2), .ref (h.length + 3), .ref (h.length + 4), .ref (h.length + 5), .ref (h.length + 6)]), (.inl (5, 0, .inr (.inr (.inr (.inr (fun _ => none))))) : ix_C), (.inl (5, 0, .inr (.inr (.inr (.inr (fun _ => none))))) : ix_C), (.inl (5, 0, .inr (.inr (.inr (.inr (fun _ => none))))) : ix_C), (.inl (5, 0, .inr (.inr (.inr (.inr (fun _ => none))))) : ix_C), (.inl (5, 0, .inr (.inr (.inr (.inr (fun _ => none))))) : ix_C), (.inl (5, 0, .inr (.inr (.inr (.inr (fun _ => none))))) : ix_C)]) o v [] h.length (fun t => h.length + t) (fun _ _ => 0) (fun _ => 0) (fun _ => 0) (WM (cel xs N)) := by
  have kp : ∀ q, q < h.length → (h ++ [.inr (7, [.int 0, .int 0, .int 0, .int (-1), .ref (h.length + 1), .ref (h.length + 2), .ref (h.length + 3), .ref (h.length + 4), .ref (h.length + 5), .ref (h.length + 6)]), (.inl (5, 0, .inr (.inr (.inr (.inr (fun _ => none))))) : ix_C), (.inl (5, 0, .inr (.inr (.inr (.inr (fun _ => none))))) : ix_C), (.inl (5, 0, .inr (.inr (.inr (.inr (fun _ => none))))) : ix_C), (.inl (5, 0, .inr (.inr (.inr (.inr (fun _ => none))))) : ix_C), (.inl (5, 0, .inr (.inr (.inr (.inr (fun _ => none))))) : ix_C), (.inl (5, 0, .inr (.inr (.inr (.inr (fun _ => none))))) : ix_C)] : ix_H)[q]? = h[q]? := fun q hq => List.getElem?_append_left hq
  refine ⟨isSB_ext g kp, fun q hq => (kp q (by omega)).trans (hO q hq), by rw [List.length_append]; omega, ⟨h98, ?_⟩, fun t h1 h6 => ⟨(show 98 ≤ h.length + t by omega), Nat.zero_le _, Nat.le_refl _, ?_⟩, fun t r h1 h6 hr => absurd hr (Nat.not_lt_zero _), fun t r t' r' h1 h6 hr => absurd hr (Nat.not_lt_zero _), fun t t' _ _ _ _ e => by have e : h.length + t = h.length + t' := e; omega⟩
  · rw [List.getElem?_append_right (Nat.le_refl _), Nat.sub_self]
    rfl
  · show (h ++ _ : ix_H)[h.length + t]? = _
    rw [List.getElem?_append_right (by omega), show h.length + t - h.length = t by omega, OA_0]
    rcases t with _ | _ | _ | _ | _ | _ | _ | t
    · omega
    all_goals first | rfl | omega
end ST9
