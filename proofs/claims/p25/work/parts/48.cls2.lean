/-! THE CLASS: what would be (written by gen48.py). -/
theorem lpJ' {J S T : Type} {X : J → Int32 → S → T} {to : Int32} {f : Int32 → S → S} (step : ∀ j i s, ¬ to ≤ i → ∃ j', X j i s = X j' (i + 1) (f i s)) (j : J) (i : Int32) (s : S) : ∃ j' i', to ≤ i' ∧ X j i s = X j' i' (itI f i (rng i to) s) := by
  suffices key : ∀ m j i s, rng i to = m → ∃ j' i', to ≤ i' ∧ X j i s = X j' i' (itI f i m s) from key _ j i s rfl
  intro m
  induction m with
  | zero =>
    intro j i s e
    have h : to ≤ i := by
      rw [Int32.le_iff_toInt_le]
      unfold rng at e
      omega
    exact ⟨j, i, h, rfl⟩
  | succ m ih =>
    intro j i s e
    have h : ¬ to ≤ i := fun h => by rw [rng_end h] at e; cases e
    obtain ⟨j1, e1⟩ := step j i s h
    obtain ⟨j', i', h1, h2⟩ := ih j1 (i + 1) (f i s) (by rw [rng_suc h] at e; omega)
    exact ⟨j', i', h1, e1.trans h2⟩
def wC (h : ix_H) (pl t p2 : Nat) (Q A : Mem) : ix_H := ov (wP h pl Q) t (arc t p2 A)
def gT (h : ix_H) (b tp rd pl s t : Nat) (lea : Int32) (Z : Mem) : Prop := gA h pl t ∧ 98 ≤ b ∧ b < pl ∧ pl + 22 ≤ s ∧ s + 10 ≤ t ∧ h[b]? = some (.inr (6, [.ref tp, .ref rd, .ref s, .ref t, .int lea])) ∧ ∀ k, k < 10 → h[s + k]? = (arc s pl Z)[k]?
section TRY
variable {fv : Value} {d : Nat} {h : ix_H} {b tp rd pl s t p2 k : Nat} {lea : Int32} {Q A Z : Mem} {p i e v a n c : Int32}
theorem wC_A : wC h pl t pl Q A = wAr h pl t Q A := rfl
theorem gT_A (g : gT h b tp rd pl s t lea Z) : gA h pl t := g.1
theorem wC_s (g : gT h b tp rd pl s t lea Z) {k : Nat} (hk : k < 10) : (wC h pl t p2 Q A)[s + k]? = (arc s pl Z)[k]? := by
  obtain ⟨g1, g2, g3, g4, g5, g6, g7⟩ := g
  exact ((ov_lo (by omega)).trans (ov_hi (by show pl + 22 ≤ _; omega))).trans (g7 k hk)
theorem wC_b (g : gT h b tp rd pl s t lea Z) : (wC h pl t p2 Q A)[b]? = some (.inr (6, [.ref tp, .ref rd, .ref s, .ref t, .int lea])) := by
  obtain ⟨g1, g2, g3, g4, g5, g6, g7⟩ := g
  exact ((ov_lo (by omega)).trans (ov_lo g3)).trans g6
theorem wC_p0 (g : gT h b tp rd pl s t lea Z) : (wC h pl t p2 Q A)[pl]? = (plc pl Q)[0]? := by
  obtain ⟨g1, g2, g3, g4, g5, g6, g7⟩ := g
  exact (ov_lo (by omega)).trans (ov_in0 (by have := g1.2.2; show pl + 22 ≤ _; omega) (by show _ < 22; decide))
theorem wC_t (g : gT h b tp rd pl s t lea Z) : (wC h pl t p2 Q A)[t]? = (arc t p2 A)[0]? := ov_in0 (by rw [wP_len]; exact g.1.2.2) (by show 0 < 10; decide)
theorem gT_s (g : gT h b tp rd pl s t lea Z) : 98 ≤ s := by
  obtain ⟨g1, g2, g3, g4, g5, g6, g7⟩ := g
  omega
theorem isCt (g : gT h b tp rd pl s t lea Z) : ix_is (ixP fv) (wC h pl t p2 Q A) t "SkylightWash$Arcade" = true := is_of (wC_t g) (by decide +kernel)
theorem wCp (g : gT h b tp rd pl s t lea Z) {X : Option String} {ini : Bool} : wF (ixP fv) (wC h pl t p2 Q A) t (0, 0, .object "SkylightWash$Plan", false, X) ini (.ref pl) = some (wAr h pl t Q A) := (wF_of (wC_t g) (gA_le g.1) (by show _ < 15; decide) rfl (Or.inl rfl)).trans (congrArg some ((ov_set0 (cs := arc t p2 A) (by show 0 < 10; decide)).trans rfl))
theorem rC2 {ty : FieldType} {fin : Bool} {X : Option String} (g : gT h b tp rd pl s t lea Z) : rF (ixP fv) (wC h pl t p2 Q A) b (6, 2, ty, fin, X) = some (.ref s) := rF_of (wC_b g) g.2.1 rfl
theorem rZ2 {ty : FieldType} {fin : Bool} {X : Option String} (g : gT h b tp rd pl s t lea Z) : rF (ixP fv) (wAr h pl t Q A) b (6, 2, ty, fin, X) = some (.ref s) := rC2 (p2 := pl) g
theorem rC3 {ty : FieldType} {fin : Bool} {X : Option String} (g : gT h b tp rd pl s t lea Z) : rF (ixP fv) (wC h pl t p2 Q A) b (6, 3, ty, fin, X) = some (.ref t) := rF_of (wC_b g) g.2.1 rfl
theorem rZ3 {ty : FieldType} {fin : Bool} {X : Option String} (g : gT h b tp rd pl s t lea Z) : rF (ixP fv) (wAr h pl t Q A) b (6, 3, ty, fin, X) = some (.ref t) := rC3 (p2 := pl) g
theorem rCs0 {ty : FieldType} {fin : Bool} {X : Option String} (g : gT h b tp rd pl s t lea Z) : rF (ixP fv) (wC h pl t p2 Q A) s (0, 0, ty, fin, X) = some (.ref pl) := rF_of ((wC_s (k := 0) g (by decide)).trans rfl) (gT_s g) rfl
theorem rZs0 {ty : FieldType} {fin : Bool} {X : Option String} (g : gT h b tp rd pl s t lea Z) : rF (ixP fv) (wAr h pl t Q A) s (0, 0, ty, fin, X) = some (.ref pl) := rCs0 (p2 := pl) g
theorem rCs1 {ty : FieldType} {fin : Bool} {X : Option String} (g : gT h b tp rd pl s t lea Z) : rF (ixP fv) (wC h pl t p2 Q A) s (0, 1, ty, fin, X) = some (.int (Z 0 0)) := rF_of ((wC_s (k := 0) g (by decide)).trans rfl) (gT_s g) rfl
theorem rZs1 {ty : FieldType} {fin : Bool} {X : Option String} (g : gT h b tp rd pl s t lea Z) : rF (ixP fv) (wAr h pl t Q A) s (0, 1, ty, fin, X) = some (.int (Z 0 0)) := rCs1 (p2 := pl) g
theorem rCs2 {ty : FieldType} {fin : Bool} {X : Option String} (g : gT h b tp rd pl s t lea Z) : rF (ixP fv) (wC h pl t p2 Q A) s (0, 2, ty, fin, X) = some (.int (Z 0 1)) := rF_of ((wC_s (k := 0) g (by decide)).trans rfl) (gT_s g) rfl
theorem rZs2 {ty : FieldType} {fin : Bool} {X : Option String} (g : gT h b tp rd pl s t lea Z) : rF (ixP fv) (wAr h pl t Q A) s (0, 2, ty, fin, X) = some (.int (Z 0 1)) := rCs2 (p2 := pl) g
theorem rCs3 {ty : FieldType} {fin : Bool} {X : Option String} (g : gT h b tp rd pl s t lea Z) : rF (ixP fv) (wC h pl t p2 Q A) s (0, 3, ty, fin, X) = some (.int (Z 0 2)) := rF_of ((wC_s (k := 0) g (by decide)).trans rfl) (gT_s g) rfl
theorem rZs3 {ty : FieldType} {fin : Bool} {X : Option String} (g : gT h b tp rd pl s t lea Z) : rF (ixP fv) (wAr h pl t Q A) s (0, 3, ty, fin, X) = some (.int (Z 0 2)) := rCs3 (p2 := pl) g
theorem rCs4 {ty : FieldType} {fin : Bool} {X : Option String} (g : gT h b tp rd pl s t lea Z) : rF (ixP fv) (wC h pl t p2 Q A) s (0, 4, ty, fin, X) = some (.int (Z 0 3)) := rF_of ((wC_s (k := 0) g (by decide)).trans rfl) (gT_s g) rfl
theorem rZs4 {ty : FieldType} {fin : Bool} {X : Option String} (g : gT h b tp rd pl s t lea Z) : rF (ixP fv) (wAr h pl t Q A) s (0, 4, ty, fin, X) = some (.int (Z 0 3)) := rCs4 (p2 := pl) g
theorem rCs5 {ty : FieldType} {fin : Bool} {X : Option String} (g : gT h b tp rd pl s t lea Z) : rF (ixP fv) (wC h pl t p2 Q A) s (0, 5, ty, fin, X) = some (.ref (s + 1)) := rF_of ((wC_s (k := 0) g (by decide)).trans rfl) (gT_s g) rfl
theorem rZs5 {ty : FieldType} {fin : Bool} {X : Option String} (g : gT h b tp rd pl s t lea Z) : rF (ixP fv) (wAr h pl t Q A) s (0, 5, ty, fin, X) = some (.ref (s + 1)) := rCs5 (p2 := pl) g
theorem rCs6 {ty : FieldType} {fin : Bool} {X : Option String} (g : gT h b tp rd pl s t lea Z) : rF (ixP fv) (wC h pl t p2 Q A) s (0, 6, ty, fin, X) = some (.ref (s + 2)) := rF_of ((wC_s (k := 0) g (by decide)).trans rfl) (gT_s g) rfl
theorem rZs6 {ty : FieldType} {fin : Bool} {X : Option String} (g : gT h b tp rd pl s t lea Z) : rF (ixP fv) (wAr h pl t Q A) s (0, 6, ty, fin, X) = some (.ref (s + 2)) := rCs6 (p2 := pl) g
theorem rCs7 {ty : FieldType} {fin : Bool} {X : Option String} (g : gT h b tp rd pl s t lea Z) : rF (ixP fv) (wC h pl t p2 Q A) s (0, 7, ty, fin, X) = some (.ref (s + 3)) := rF_of ((wC_s (k := 0) g (by decide)).trans rfl) (gT_s g) rfl
theorem rZs7 {ty : FieldType} {fin : Bool} {X : Option String} (g : gT h b tp rd pl s t lea Z) : rF (ixP fv) (wAr h pl t Q A) s (0, 7, ty, fin, X) = some (.ref (s + 3)) := rCs7 (p2 := pl) g
theorem rCs8 {ty : FieldType} {fin : Bool} {X : Option String} (g : gT h b tp rd pl s t lea Z) : rF (ixP fv) (wC h pl t p2 Q A) s (0, 8, ty, fin, X) = some (.ref (s + 4)) := rF_of ((wC_s (k := 0) g (by decide)).trans rfl) (gT_s g) rfl
theorem rZs8 {ty : FieldType} {fin : Bool} {X : Option String} (g : gT h b tp rd pl s t lea Z) : rF (ixP fv) (wAr h pl t Q A) s (0, 8, ty, fin, X) = some (.ref (s + 4)) := rCs8 (p2 := pl) g
theorem rCs9 {ty : FieldType} {fin : Bool} {X : Option String} (g : gT h b tp rd pl s t lea Z) : rF (ixP fv) (wC h pl t p2 Q A) s (0, 9, ty, fin, X) = some (.ref (s + 5)) := rF_of ((wC_s (k := 0) g (by decide)).trans rfl) (gT_s g) rfl
theorem rZs9 {ty : FieldType} {fin : Bool} {X : Option String} (g : gT h b tp rd pl s t lea Z) : rF (ixP fv) (wAr h pl t Q A) s (0, 9, ty, fin, X) = some (.ref (s + 5)) := rCs9 (p2 := pl) g
theorem rCs10 {ty : FieldType} {fin : Bool} {X : Option String} (g : gT h b tp rd pl s t lea Z) : rF (ixP fv) (wC h pl t p2 Q A) s (0, 10, ty, fin, X) = some (.ref (s + 6)) := rF_of ((wC_s (k := 0) g (by decide)).trans rfl) (gT_s g) rfl
theorem rZs10 {ty : FieldType} {fin : Bool} {X : Option String} (g : gT h b tp rd pl s t lea Z) : rF (ixP fv) (wAr h pl t Q A) s (0, 10, ty, fin, X) = some (.ref (s + 6)) := rCs10 (p2 := pl) g
theorem rCs11 {ty : FieldType} {fin : Bool} {X : Option String} (g : gT h b tp rd pl s t lea Z) : rF (ixP fv) (wC h pl t p2 Q A) s (0, 11, ty, fin, X) = some (.ref (s + 7)) := rF_of ((wC_s (k := 0) g (by decide)).trans rfl) (gT_s g) rfl
theorem rZs11 {ty : FieldType} {fin : Bool} {X : Option String} (g : gT h b tp rd pl s t lea Z) : rF (ixP fv) (wAr h pl t Q A) s (0, 11, ty, fin, X) = some (.ref (s + 7)) := rCs11 (p2 := pl) g
theorem rCs12 {ty : FieldType} {fin : Bool} {X : Option String} (g : gT h b tp rd pl s t lea Z) : rF (ixP fv) (wC h pl t p2 Q A) s (0, 12, ty, fin, X) = some (.ref (s + 8)) := rF_of ((wC_s (k := 0) g (by decide)).trans rfl) (gT_s g) rfl
theorem rZs12 {ty : FieldType} {fin : Bool} {X : Option String} (g : gT h b tp rd pl s t lea Z) : rF (ixP fv) (wAr h pl t Q A) s (0, 12, ty, fin, X) = some (.ref (s + 8)) := rCs12 (p2 := pl) g
theorem rCs13 {ty : FieldType} {fin : Bool} {X : Option String} (g : gT h b tp rd pl s t lea Z) : rF (ixP fv) (wC h pl t p2 Q A) s (0, 13, ty, fin, X) = some (.ref (s + 9)) := rF_of ((wC_s (k := 0) g (by decide)).trans rfl) (gT_s g) rfl
theorem rZs13 {ty : FieldType} {fin : Bool} {X : Option String} (g : gT h b tp rd pl s t lea Z) : rF (ixP fv) (wAr h pl t Q A) s (0, 13, ty, fin, X) = some (.ref (s + 9)) := rCs13 (p2 := pl) g
theorem rCs14 {ty : FieldType} {fin : Bool} {X : Option String} (g : gT h b tp rd pl s t lea Z) : rF (ixP fv) (wC h pl t p2 Q A) s (0, 14, ty, fin, X) = some (.int (Z 0 4)) := rF_of ((wC_s (k := 0) g (by decide)).trans rfl) (gT_s g) rfl
theorem rZs14 {ty : FieldType} {fin : Bool} {X : Option String} (g : gT h b tp rd pl s t lea Z) : rF (ixP fv) (wAr h pl t Q A) s (0, 14, ty, fin, X) = some (.int (Z 0 4)) := rCs14 (p2 := pl) g
theorem rCp4 {ty : FieldType} {fin : Bool} {X : Option String} (g : gT h b tp rd pl s t lea Z) : rF (ixP fv) (wC h pl t p2 Q A) pl (2, 4, ty, fin, X) = some (.int (Q 0 1)) := rF_of ((wC_p0 g).trans rfl) g.1.1 rfl
theorem rCp11 {ty : FieldType} {fin : Bool} {X : Option String} (g : gT h b tp rd pl s t lea Z) : rF (ixP fv) (wC h pl t p2 Q A) pl (2, 11, ty, fin, X) = some (.int (Q 0 3)) := rF_of ((wC_p0 g).trans rfl) g.1.1 rfl
theorem m120 {h : ix_H} {o o' : Nat} (ho : isI h o = true) (ho' : isI h o' = true) (hr : 98 ≤ o) (hr' : 98 ≤ o') (hne : o ≠ o') : xe (ixP fv) d 120 0 [some (.ref o), some (.ref o')] [] h = some (.inl none, cpy h o o') := by
  obtain ⟨n, a, e, hn⟩ := isI_of ho
  obtain ⟨n', a', e', hn'⟩ := isI_of ho'
  have e1 : rN (ixP fv) h o = some (.int (nI n)) := rN_of e (by decide)
  have e1' : rN (ixP fv) h o' = some (.int (nI n')) := rN_of e' (by decide)
  have hmin : (if nI n' < nI n then nI n' else nI n) = nI (min n n') := by
    by_cases q : n' < n
    · rw [if_pos (nI_lt q (by omega)), Nat.min_eq_right (by omega)]
    · rw [if_neg (nI_nlt (by omega) (by omega)), Nat.min_eq_left (by omega)]
  have hc : cpy h o o' = h.set o' (.inl (0, n', .inl (fun j => if j < n ∧ j < n' then a j else a' j))) := by
    unfold cpy; rw [e, e']
  have e2 : wY (ixP fv) h o 0 o' 0 (nI (min n n')) = some (cpy h o o') := by
    have hcl : (nI (min n n')).toNatClampNeg = min n n' := nI_clamp (by omega)
    have hz : (0 : Int32).toNatClampNeg = 0 := rfl
    rw [hc]
    unfold wY ix_ai
    simp only [e, e']
    rw [if_pos ⟨hr', hne, Or.inl ⟨by trivial, hr⟩, by trivial, by decide, by decide, nI_pos (by omega), by rw [hcl, hz]; omega, by rw [hcl, hz]; omega⟩, hcl, hz]
    have : va_cpy a a' 0 0 (min n n') = (fun j => if j < n ∧ j < n' then a j else a' j) := by
      funext j
      unfold va_cpy
      by_cases q : j < n ∧ j < n'
      · rw [if_pos q, if_pos (by omega), Nat.zero_add, Nat.sub_zero]
      · rw [if_neg q, if_neg (by omega)]
    rw [this]
  simp only [q120_0, q120_1, q120_2, q120_3, q120_4, q120_5, q120_6, q120_7, q120_8, q120_11, q120_14 (st := []), i10, eq_self, ft0, ft1, b01_ft, k1r, k1i, xG_some, xH_some, xC_v, xC_n, if_true, if_false, not_true_eq_false, not_false_eq_true, ix_st, ix_st2, List.getElem?_cons_succ, List.getElem?_cons_zero, List.set_cons_succ, List.set_cons_zero, Value.category, List.map_cons, List.map_nil, List.sum_cons, List.sum_nil, Nat.reduceAdd, Nat.reduceLeDiff, Nat.reduceEqDiff, Nat.zero_le, reduceCtorEq, reduceIte, xit, b01_z, b01_o, b01_t, b01_f, Bool.not_eq_true, Bool.true_eq_false, Bool.false_eq_true, not_true, not_false_eq_true, eq_self, e1, e1', hmin, e2]
theorem isZ1 (g : gT h b tp rd pl s t lea Z) : isI (wAr h pl t Q A) (s + 1) = true := by
  unfold isI; rw [show (wAr h pl t Q A)[s + 1]? = _ from wC_s (p2 := pl) (k := 1) g (by decide)]; rfl
theorem neZ1 (g : gT h b tp rd pl s t lea Z) : s + 1 ≠ t + 1 := by
  have := g.2.2.2.2.1
  omega
theorem cpZ1 (g : gT h b tp rd pl s t lea Z) : cpy (wAr h pl t Q A) (s + 1) (t + 1) = wAr h pl t Q (cpm A 1 40 (Z 1)) := by
  unfold cpy
  rw [show (wAr h pl t Q A)[s + 1]? = _ from wC_s (p2 := pl) (k := 1) g (by decide), wAr_c1 g.1]
  show (wAr h pl t Q A).set (t + 1) _ = _
  refine (ov_set (cs := arc t pl A) (by show 1 < 10; decide)).trans (congrArg (ov (wP h pl Q) t) ?_)
  have : (fun j => if j < 40 ∧ j < 40 then Z 1 j else A 1 j) = (fun j => if j < 40 then Z 1 j else A 1 j) := by
    funext j
    simp only [and_self]
  rw [this]
  rfl
theorem m120_1 (g : gT h b tp rd pl s t lea Z) : xe (ixP fv) d 120 0 [some (.ref (s + 1)), some (.ref (t + 1))] [] (wAr h pl t Q A) = some (.inl none, wAr h pl t Q (cpm A 1 40 (Z 1))) := (m120 (isZ1 g) (iA1 g.1) (Nat.le_trans (gT_s g) (Nat.le_add_right s 1)) (oA1 g.1) (neZ1 g)).trans (by rw [cpZ1 g])
theorem isZ2 (g : gT h b tp rd pl s t lea Z) : isI (wAr h pl t Q A) (s + 2) = true := by
  unfold isI; rw [show (wAr h pl t Q A)[s + 2]? = _ from wC_s (p2 := pl) (k := 2) g (by decide)]; rfl
theorem neZ2 (g : gT h b tp rd pl s t lea Z) : s + 2 ≠ t + 2 := by
  have := g.2.2.2.2.1
  omega
theorem cpZ2 (g : gT h b tp rd pl s t lea Z) : cpy (wAr h pl t Q A) (s + 2) (t + 2) = wAr h pl t Q (cpm A 2 40 (Z 2)) := by
  unfold cpy
  rw [show (wAr h pl t Q A)[s + 2]? = _ from wC_s (p2 := pl) (k := 2) g (by decide), wAr_c2 g.1]
  show (wAr h pl t Q A).set (t + 2) _ = _
  refine (ov_set (cs := arc t pl A) (by show 2 < 10; decide)).trans (congrArg (ov (wP h pl Q) t) ?_)
  have : (fun j => if j < 40 ∧ j < 40 then Z 2 j else A 2 j) = (fun j => if j < 40 then Z 2 j else A 2 j) := by
    funext j
    simp only [and_self]
  rw [this]
  rfl
theorem m120_2 (g : gT h b tp rd pl s t lea Z) : xe (ixP fv) d 120 0 [some (.ref (s + 2)), some (.ref (t + 2))] [] (wAr h pl t Q A) = some (.inl none, wAr h pl t Q (cpm A 2 40 (Z 2))) := (m120 (isZ2 g) (iA2 g.1) (Nat.le_trans (gT_s g) (Nat.le_add_right s 2)) (oA2 g.1) (neZ2 g)).trans (by rw [cpZ2 g])
theorem isZ3 (g : gT h b tp rd pl s t lea Z) : isI (wAr h pl t Q A) (s + 3) = true := by
  unfold isI; rw [show (wAr h pl t Q A)[s + 3]? = _ from wC_s (p2 := pl) (k := 3) g (by decide)]; rfl
theorem neZ3 (g : gT h b tp rd pl s t lea Z) : s + 3 ≠ t + 3 := by
  have := g.2.2.2.2.1
  omega
theorem cpZ3 (g : gT h b tp rd pl s t lea Z) : cpy (wAr h pl t Q A) (s + 3) (t + 3) = wAr h pl t Q (cpm A 3 40 (Z 3)) := by
  unfold cpy
  rw [show (wAr h pl t Q A)[s + 3]? = _ from wC_s (p2 := pl) (k := 3) g (by decide), wAr_c3 g.1]
  show (wAr h pl t Q A).set (t + 3) _ = _
  refine (ov_set (cs := arc t pl A) (by show 3 < 10; decide)).trans (congrArg (ov (wP h pl Q) t) ?_)
  have : (fun j => if j < 40 ∧ j < 40 then Z 3 j else A 3 j) = (fun j => if j < 40 then Z 3 j else A 3 j) := by
    funext j
    simp only [and_self]
  rw [this]
  rfl
theorem m120_3 (g : gT h b tp rd pl s t lea Z) : xe (ixP fv) d 120 0 [some (.ref (s + 3)), some (.ref (t + 3))] [] (wAr h pl t Q A) = some (.inl none, wAr h pl t Q (cpm A 3 40 (Z 3))) := (m120 (isZ3 g) (iA3 g.1) (Nat.le_trans (gT_s g) (Nat.le_add_right s 3)) (oA3 g.1) (neZ3 g)).trans (by rw [cpZ3 g])
theorem isZ4 (g : gT h b tp rd pl s t lea Z) : isI (wAr h pl t Q A) (s + 4) = true := by
  unfold isI; rw [show (wAr h pl t Q A)[s + 4]? = _ from wC_s (p2 := pl) (k := 4) g (by decide)]; rfl
theorem neZ4 (g : gT h b tp rd pl s t lea Z) : s + 4 ≠ t + 4 := by
  have := g.2.2.2.2.1
  omega
theorem cpZ4 (g : gT h b tp rd pl s t lea Z) : cpy (wAr h pl t Q A) (s + 4) (t + 4) = wAr h pl t Q (cpm A 4 3 (Z 4)) := by
  unfold cpy
  rw [show (wAr h pl t Q A)[s + 4]? = _ from wC_s (p2 := pl) (k := 4) g (by decide), wAr_c4 g.1]
  show (wAr h pl t Q A).set (t + 4) _ = _
  refine (ov_set (cs := arc t pl A) (by show 4 < 10; decide)).trans (congrArg (ov (wP h pl Q) t) ?_)
  have : (fun j => if j < 3 ∧ j < 3 then Z 4 j else A 4 j) = (fun j => if j < 3 then Z 4 j else A 4 j) := by
    funext j
    simp only [and_self]
  rw [this]
  rfl
theorem m120_4 (g : gT h b tp rd pl s t lea Z) : xe (ixP fv) d 120 0 [some (.ref (s + 4)), some (.ref (t + 4))] [] (wAr h pl t Q A) = some (.inl none, wAr h pl t Q (cpm A 4 3 (Z 4))) := (m120 (isZ4 g) (iA4 g.1) (Nat.le_trans (gT_s g) (Nat.le_add_right s 4)) (oA4 g.1) (neZ4 g)).trans (by rw [cpZ4 g])
theorem isZ5 (g : gT h b tp rd pl s t lea Z) : isI (wAr h pl t Q A) (s + 5) = true := by
  unfold isI; rw [show (wAr h pl t Q A)[s + 5]? = _ from wC_s (p2 := pl) (k := 5) g (by decide)]; rfl
theorem neZ5 (g : gT h b tp rd pl s t lea Z) : s + 5 ≠ t + 5 := by
  have := g.2.2.2.2.1
  omega
theorem cpZ5 (g : gT h b tp rd pl s t lea Z) : cpy (wAr h pl t Q A) (s + 5) (t + 5) = wAr h pl t Q (cpm A 5 3 (Z 5)) := by
  unfold cpy
  rw [show (wAr h pl t Q A)[s + 5]? = _ from wC_s (p2 := pl) (k := 5) g (by decide), wAr_c5 g.1]
  show (wAr h pl t Q A).set (t + 5) _ = _
  refine (ov_set (cs := arc t pl A) (by show 5 < 10; decide)).trans (congrArg (ov (wP h pl Q) t) ?_)
  have : (fun j => if j < 3 ∧ j < 3 then Z 5 j else A 5 j) = (fun j => if j < 3 then Z 5 j else A 5 j) := by
    funext j
    simp only [and_self]
  rw [this]
  rfl
theorem m120_5 (g : gT h b tp rd pl s t lea Z) : xe (ixP fv) d 120 0 [some (.ref (s + 5)), some (.ref (t + 5))] [] (wAr h pl t Q A) = some (.inl none, wAr h pl t Q (cpm A 5 3 (Z 5))) := (m120 (isZ5 g) (iA5 g.1) (Nat.le_trans (gT_s g) (Nat.le_add_right s 5)) (oA5 g.1) (neZ5 g)).trans (by rw [cpZ5 g])
theorem isZ6 (g : gT h b tp rd pl s t lea Z) : isI (wAr h pl t Q A) (s + 6) = true := by
  unfold isI; rw [show (wAr h pl t Q A)[s + 6]? = _ from wC_s (p2 := pl) (k := 6) g (by decide)]; rfl
theorem neZ6 (g : gT h b tp rd pl s t lea Z) : s + 6 ≠ t + 6 := by
  have := g.2.2.2.2.1
  omega
theorem cpZ6 (g : gT h b tp rd pl s t lea Z) : cpy (wAr h pl t Q A) (s + 6) (t + 6) = wAr h pl t Q (cpm A 6 3 (Z 6)) := by
  unfold cpy
  rw [show (wAr h pl t Q A)[s + 6]? = _ from wC_s (p2 := pl) (k := 6) g (by decide), wAr_c6 g.1]
  show (wAr h pl t Q A).set (t + 6) _ = _
  refine (ov_set (cs := arc t pl A) (by show 6 < 10; decide)).trans (congrArg (ov (wP h pl Q) t) ?_)
  have : (fun j => if j < 3 ∧ j < 3 then Z 6 j else A 6 j) = (fun j => if j < 3 then Z 6 j else A 6 j) := by
    funext j
    simp only [and_self]
  rw [this]
  rfl
theorem m120_6 (g : gT h b tp rd pl s t lea Z) : xe (ixP fv) d 120 0 [some (.ref (s + 6)), some (.ref (t + 6))] [] (wAr h pl t Q A) = some (.inl none, wAr h pl t Q (cpm A 6 3 (Z 6))) := (m120 (isZ6 g) (iA6 g.1) (Nat.le_trans (gT_s g) (Nat.le_add_right s 6)) (oA6 g.1) (neZ6 g)).trans (by rw [cpZ6 g])
theorem isZ7 (g : gT h b tp rd pl s t lea Z) : isI (wAr h pl t Q A) (s + 7) = true := by
  unfold isI; rw [show (wAr h pl t Q A)[s + 7]? = _ from wC_s (p2 := pl) (k := 7) g (by decide)]; rfl
theorem neZ7 (g : gT h b tp rd pl s t lea Z) : s + 7 ≠ t + 7 := by
  have := g.2.2.2.2.1
  omega
theorem cpZ7 (g : gT h b tp rd pl s t lea Z) : cpy (wAr h pl t Q A) (s + 7) (t + 7) = wAr h pl t Q (cpm A 7 3 (Z 7)) := by
  unfold cpy
  rw [show (wAr h pl t Q A)[s + 7]? = _ from wC_s (p2 := pl) (k := 7) g (by decide), wAr_c7 g.1]
  show (wAr h pl t Q A).set (t + 7) _ = _
  refine (ov_set (cs := arc t pl A) (by show 7 < 10; decide)).trans (congrArg (ov (wP h pl Q) t) ?_)
  have : (fun j => if j < 3 ∧ j < 3 then Z 7 j else A 7 j) = (fun j => if j < 3 then Z 7 j else A 7 j) := by
    funext j
    simp only [and_self]
  rw [this]
  rfl
theorem m120_7 (g : gT h b tp rd pl s t lea Z) : xe (ixP fv) d 120 0 [some (.ref (s + 7)), some (.ref (t + 7))] [] (wAr h pl t Q A) = some (.inl none, wAr h pl t Q (cpm A 7 3 (Z 7))) := (m120 (isZ7 g) (iA7 g.1) (Nat.le_trans (gT_s g) (Nat.le_add_right s 7)) (oA7 g.1) (neZ7 g)).trans (by rw [cpZ7 g])
theorem isZ8 (g : gT h b tp rd pl s t lea Z) : isI (wAr h pl t Q A) (s + 8) = true := by
  unfold isI; rw [show (wAr h pl t Q A)[s + 8]? = _ from wC_s (p2 := pl) (k := 8) g (by decide)]; rfl
theorem neZ8 (g : gT h b tp rd pl s t lea Z) : s + 8 ≠ t + 8 := by
  have := g.2.2.2.2.1
  omega
theorem cpZ8 (g : gT h b tp rd pl s t lea Z) : cpy (wAr h pl t Q A) (s + 8) (t + 8) = wAr h pl t Q (cpm A 8 3 (Z 8)) := by
  unfold cpy
  rw [show (wAr h pl t Q A)[s + 8]? = _ from wC_s (p2 := pl) (k := 8) g (by decide), wAr_c8 g.1]
  show (wAr h pl t Q A).set (t + 8) _ = _
  refine (ov_set (cs := arc t pl A) (by show 8 < 10; decide)).trans (congrArg (ov (wP h pl Q) t) ?_)
  have : (fun j => if j < 3 ∧ j < 3 then Z 8 j else A 8 j) = (fun j => if j < 3 then Z 8 j else A 8 j) := by
    funext j
    simp only [and_self]
  rw [this]
  rfl
theorem m120_8 (g : gT h b tp rd pl s t lea Z) : xe (ixP fv) d 120 0 [some (.ref (s + 8)), some (.ref (t + 8))] [] (wAr h pl t Q A) = some (.inl none, wAr h pl t Q (cpm A 8 3 (Z 8))) := (m120 (isZ8 g) (iA8 g.1) (Nat.le_trans (gT_s g) (Nat.le_add_right s 8)) (oA8 g.1) (neZ8 g)).trans (by rw [cpZ8 g])
def cfL (Z A : Mem) : Mem := (cpm (cpm (cpm (cpm (cpm (cpm (cpm (cpm (sm (sm (sm (sm A 0 0 (Z 0 0)) 0 1 (Z 0 1)) 0 2 (Z 0 2)) 0 3 (Z 0 3)) 1 40 (Z 1)) 2 40 (Z 2)) 3 40 (Z 3)) 4 3 (Z 4)) 5 3 (Z 5)) 6 3 (Z 6)) 7 3 (Z 7)) 8 3 (Z 8))
theorem m3 (g : gT h b tp rd pl s t lea Z) : xe (ixP fv) (d + 1) 3 0 [some (.ref t), some (.ref s)] [] (wC h pl t p2 Q A) = some (.inl none, wAr h pl t Q (cfL Z A)) := by
  simp only [q3_0, q3_1, q3_2, q3_5, q3_8, q3_9, q3_10, q3_13, q3_16, q3_17, q3_18, q3_21, q3_24, q3_25, q3_26, q3_29, q3_32, q3_33, q3_34, q3_37, q3_40, q3_41, q3_44, q3_45, q3_48, q3_51, q3_52, q3_55, q3_56, q3_59, q3_62, q3_63, q3_66, q3_67, q3_70, q3_73, q3_74, q3_77, q3_78, q3_81, q3_84, q3_85, q3_88, q3_89, q3_92, q3_95, q3_96, q3_99, q3_100, q3_103, q3_106, q3_107, q3_110, q3_111, q3_114, q3_117, q3_118, q3_121, q3_122, q3_125, q3_128 (st := []), i10, eq_self, ft0, ft1, b01_ft, k1r, k1i, xG_some, xH_some, xC_v, xC_n, if_true, if_false, not_true_eq_false, not_false_eq_true, ix_st, ix_st2, List.getElem?_cons_succ, List.getElem?_cons_zero, List.set_cons_succ, List.set_cons_zero, Value.category, List.map_cons, List.map_nil, List.sum_cons, List.sum_nil, Nat.reduceAdd, Nat.reduceLeDiff, Nat.reduceEqDiff, Nat.zero_le, reduceCtorEq, reduceIte, xit, b01_z, b01_o, b01_t, b01_f, Bool.not_eq_true, Bool.true_eq_false, Bool.false_eq_true, not_true, not_false_eq_true, eq_self, rCs0 g, rZs0 g, rZs5 g, rZs6 g, rZs7 g, rZs8 g, rZs9 g, rZs10 g, rZs11 g, rZs12 g, rZs13 g, rZs1 g, rZs2 g, rZs3 g, rZs4 g, rZs14 g, rAa5 g.1, rAa6 g.1, rAa7 g.1, rAa8 g.1, rAa9 g.1, rAa10 g.1, rAa11 g.1, rAa12 g.1, wCp g, wAra1 g.1, wAra2 g.1, wAra3 g.1, wAra4 g.1, m120_1 g, m120_2 g, m120_3 g, m120_4 g, m120_5 g, m120_6 g, m120_7 g, m120_8 g]
  rfl
theorem lt200 {i : Int32} : (200 < i) = (201 ≤ i) := by
  rw [Int32.lt_iff_toInt_lt, Int32.le_iff_toInt_le]
  exact propext (by show 200 < i.toInt ↔ 201 ≤ i.toInt; omega)
def utS (Q : Mem) (p i : Int32) (A : Mem) : (Int32 × Mem) ⊕ Mem := if whL Q A p = false then .inl (i, A) else .inr (gnL Q A 1)
def utL (Q A : Mem) (p : Int32) : Int32 × Mem := xit id (fun A' => (-1, A')) (itxI (utS Q p) 0 (rng 0 201) A)
theorem m105 (g : gT h b tp rd pl s t lea Z) (hQ : 0 ≤ Q 0 1) (hp : inL p (Q 0 1) = false) : xe (ixP fv) (d + 7) 105 0 [some (.ref b), some (.int p), none] [] (wC h pl t p2 Q A) = some (.inl (some (.int ((utL Q (cfL Z A) p).1))), wAr h pl t Q (utL Q (cfL Z A) p).2) := by
  have key := lpx0 (X := fun i a => xe (ixP fv) (d + 7) 105 40 [some (.ref b), some (.int p), some (.int i)] [] (wAr h pl t Q a)) (E := fun r : Int32 × Mem => some (.inl (some (.int (r.1))), wAr h pl t Q r.2)) (F := fun a => some (.inl (some (.int (-1))), wAr h pl t Q a)) (to := 201) (f := utS Q p) (fun i a hc => by
    unfold utS
    by_cases c1 : whL Q a p = false
    · simp only [q105_40 (x := i), q105_41, q105_44, q105_47, q105_48, q105_51, q105_52, q105_55, q105_58, q105_59 (st := []), i10, eq_self, ft0, ft1, b01_ft, k1r, k1i, xG_some, xH_some, xC_v, xC_n, if_true, if_false, not_true_eq_false, not_false_eq_true, ix_st, ix_st2, List.getElem?_cons_succ, List.getElem?_cons_zero, List.set_cons_succ, List.set_cons_zero, Value.category, List.map_cons, List.map_nil, List.sum_cons, List.sum_nil, Nat.reduceAdd, Nat.reduceLeDiff, Nat.reduceEqDiff, Nat.zero_le, reduceCtorEq, reduceIte, xit, b01_z, b01_o, b01_t, b01_f, Bool.not_eq_true, Bool.true_eq_false, Bool.false_eq_true, not_true, not_false_eq_true, eq_self, lt200, hc, rZ3 g, isAA g.1, m15 g.1, c1]
    · simp only [q105_40 (x := i), q105_41, q105_44, q105_47, q105_48, q105_51, q105_52, q105_55, q105_58, q105_59 (st := []), q105_60, q105_61, q105_64, q105_65, q105_68, q105_69, q105_72, i10, eq_self, ft0, ft1, b01_ft, k1r, k1i, xG_some, xH_some, xC_v, xC_n, if_true, if_false, not_true_eq_false, not_false_eq_true, ix_st, ix_st2, List.getElem?_cons_succ, List.getElem?_cons_zero, List.set_cons_succ, List.set_cons_zero, Value.category, List.map_cons, List.map_nil, List.sum_cons, List.sum_nil, Nat.reduceAdd, Nat.reduceLeDiff, Nat.reduceEqDiff, Nat.zero_le, reduceCtorEq, reduceIte, xit, b01_z, b01_o, b01_t, b01_f, Bool.not_eq_true, Bool.true_eq_false, Bool.false_eq_true, not_true, not_false_eq_true, eq_self, lt200, hc, rZ3 g, isAA g.1, m15 g.1, m4 g.1 hQ, ix_k1, beq_self_eq_true, c1]) (fun i a hc => by
    simp only [q105_40 (x := i), q105_41, q105_44, q105_75, q105_76 (st := []), i10, eq_self, ft0, ft1, b01_ft, k1r, k1i, xG_some, xH_some, xC_v, xC_n, if_true, if_false, not_true_eq_false, not_false_eq_true, ix_st, ix_st2, List.getElem?_cons_succ, List.getElem?_cons_zero, List.set_cons_succ, List.set_cons_zero, Value.category, List.map_cons, List.map_nil, List.sum_cons, List.sum_nil, Nat.reduceAdd, Nat.reduceLeDiff, Nat.reduceEqDiff, Nat.zero_le, reduceCtorEq, reduceIte, xit, b01_z, b01_o, b01_t, b01_f, Bool.not_eq_true, Bool.true_eq_false, Bool.false_eq_true, not_true, not_false_eq_true, eq_self, lt200, hc]) 0 (cfL Z A)
  simp only [q105_0, q105_1, q105_2, q105_5, q105_8, q105_11, q105_14, q105_20, q105_27, q105_28, q105_31, q105_32, q105_35, q105_38, q105_39, i10, eq_self, ft0, ft1, b01_ft, k1r, k1i, xG_some, xH_some, xC_v, xC_n, if_true, if_false, not_true_eq_false, not_false_eq_true, ix_st, ix_st2, List.getElem?_cons_succ, List.getElem?_cons_zero, List.set_cons_succ, List.set_cons_zero, Value.category, List.map_cons, List.map_nil, List.sum_cons, List.sum_nil, Nat.reduceAdd, Nat.reduceLeDiff, Nat.reduceEqDiff, Nat.zero_le, reduceCtorEq, reduceIte, xit, b01_z, b01_o, b01_t, b01_f, Bool.not_eq_true, Bool.true_eq_false, Bool.false_eq_true, not_true, not_false_eq_true, eq_self, rC2 g, rC3 g, rCs0 g, rCp4 g, m112, hp, isCt g, m3 g]
  refine key.trans ?_
  unfold utL
  cases itxI (utS Q p) 0 (rng 0 201) (cfL Z A) <;> rfl
def fsM (Q Z A : Mem) (n : Int32) : Mem := gnL Q (cfL Z A) n
def fsL (Q Z A : Mem) (n : Int32) : Nat → Int32
  | 0 => fsM Q Z A n 0 2 - Z 0 2
  | 1 => liL (fsM Q Z A n) 0 (Q 0 1)
  | 2 => adL Q (fsM Q Z A n)
  | 3 => dbL Q (fsM Q Z A n)
  | _ => 0
theorem cfL_2 : cfL Z A 0 2 = Z 0 2 := rfl
theorem m106_0 (g : gT h b tp rd pl s t lea Z) (hQ : 0 ≤ Q 0 1) (hn : ntL n 120 = false) : xe (ixP fv) (d + 7) 106 0 [some (.ref b), some (.int n), some (.int 0), none] [] (wC h pl t p2 Q A) = some (.inl (some (.int (fsL Q Z A n 0))), wAr h pl t Q (fsM Q Z A n)) := by
  have e : gnL Q (cfL Z A) n = fsM Q Z A n := rfl
  simp only [q106_0, q106_1, q106_3, q106_6, q106_12, q106_19, q106_20, q106_21, q106_24, q106_30, q106_37, q106_38, q106_41, q106_42, q106_45, q106_48, q106_49, q106_52, q106_53, q106_56, q106_57, q106_58, q106_84, q106_85 (st := []), q106_86, q106_87, q106_90, q106_91, q106_92, q106_95, q106_98, q106_101, q106_104 (st := []), q106_105, q106_106, q106_109, q106_112 (st := []), q106_113, q106_114, q106_117, q106_120 (st := []), i10, eq_self, ft0, ft1, b01_ft, k1r, k1i, xG_some, xH_some, xC_v, xC_n, if_true, if_false, not_true_eq_false, not_false_eq_true, ix_st, ix_st2, List.getElem?_cons_succ, List.getElem?_cons_zero, List.set_cons_succ, List.set_cons_zero, Value.category, List.map_cons, List.map_nil, List.sum_cons, List.sum_nil, Nat.reduceAdd, Nat.reduceLeDiff, Nat.reduceEqDiff, Nat.zero_le, reduceCtorEq, reduceIte, xit, b01_z, b01_o, b01_t, b01_f, Bool.not_eq_true, Bool.true_eq_false, Bool.false_eq_true, not_true, not_false_eq_true, eq_self, rC2 g, rC3 g, rZ3 g, m113, hn, m112, show inL 0 4 = false by decide, isCt g, isAA g.1, m3 g, m4 g.1 hQ, e, rAa0 g.1, rAp4 g.1, m18 g.1, m22 g.1, m21 g.1, eq_self]
  try rfl
theorem m106_1 (g : gT h b tp rd pl s t lea Z) (hQ : 0 ≤ Q 0 1) (hn : ntL n 120 = false) : xe (ixP fv) (d + 7) 106 0 [some (.ref b), some (.int n), some (.int 1), none] [] (wC h pl t p2 Q A) = some (.inl (some (.int (fsL Q Z A n 1))), wAr h pl t Q (fsM Q Z A n)) := by
  have e : gnL Q (cfL Z A) n = fsM Q Z A n := rfl
  simp only [q106_0, q106_1, q106_3, q106_6, q106_12, q106_19, q106_20, q106_21, q106_24, q106_30, q106_37, q106_38, q106_41, q106_42, q106_45, q106_48, q106_49, q106_52, q106_53, q106_56, q106_57, q106_58, q106_84, q106_85 (st := []), q106_86, q106_87, q106_90, q106_91, q106_92, q106_95, q106_98, q106_101, q106_104 (st := []), q106_105, q106_106, q106_109, q106_112 (st := []), q106_113, q106_114, q106_117, q106_120 (st := []), i10, eq_self, ft0, ft1, b01_ft, k1r, k1i, xG_some, xH_some, xC_v, xC_n, if_true, if_false, not_true_eq_false, not_false_eq_true, ix_st, ix_st2, List.getElem?_cons_succ, List.getElem?_cons_zero, List.set_cons_succ, List.set_cons_zero, Value.category, List.map_cons, List.map_nil, List.sum_cons, List.sum_nil, Nat.reduceAdd, Nat.reduceLeDiff, Nat.reduceEqDiff, Nat.zero_le, reduceCtorEq, reduceIte, xit, b01_z, b01_o, b01_t, b01_f, Bool.not_eq_true, Bool.true_eq_false, Bool.false_eq_true, not_true, not_false_eq_true, eq_self, rC2 g, rC3 g, rZ3 g, m113, hn, m112, show inL 1 4 = false by decide, isCt g, isAA g.1, m3 g, m4 g.1 hQ, e, rAa0 g.1, rAp4 g.1, m18 g.1, m22 g.1, m21 g.1, (eq_false (show ¬ (1 : Int32) = 0 by decide))]
  try rfl
theorem m106_2 (g : gT h b tp rd pl s t lea Z) (hQ : 0 ≤ Q 0 1) (hn : ntL n 120 = false) : xe (ixP fv) (d + 7) 106 0 [some (.ref b), some (.int n), some (.int 2), none] [] (wC h pl t p2 Q A) = some (.inl (some (.int (fsL Q Z A n 2))), wAr h pl t Q (fsM Q Z A n)) := by
  have e : gnL Q (cfL Z A) n = fsM Q Z A n := rfl
  simp only [q106_0, q106_1, q106_3, q106_6, q106_12, q106_19, q106_20, q106_21, q106_24, q106_30, q106_37, q106_38, q106_41, q106_42, q106_45, q106_48, q106_49, q106_52, q106_53, q106_56, q106_57, q106_58, q106_84, q106_85 (st := []), q106_86, q106_87, q106_90, q106_91, q106_92, q106_95, q106_98, q106_101, q106_104 (st := []), q106_105, q106_106, q106_109, q106_112 (st := []), q106_113, q106_114, q106_117, q106_120 (st := []), i10, eq_self, ft0, ft1, b01_ft, k1r, k1i, xG_some, xH_some, xC_v, xC_n, if_true, if_false, not_true_eq_false, not_false_eq_true, ix_st, ix_st2, List.getElem?_cons_succ, List.getElem?_cons_zero, List.set_cons_succ, List.set_cons_zero, Value.category, List.map_cons, List.map_nil, List.sum_cons, List.sum_nil, Nat.reduceAdd, Nat.reduceLeDiff, Nat.reduceEqDiff, Nat.zero_le, reduceCtorEq, reduceIte, xit, b01_z, b01_o, b01_t, b01_f, Bool.not_eq_true, Bool.true_eq_false, Bool.false_eq_true, not_true, not_false_eq_true, eq_self, rC2 g, rC3 g, rZ3 g, m113, hn, m112, show inL 2 4 = false by decide, isCt g, isAA g.1, m3 g, m4 g.1 hQ, e, rAa0 g.1, rAp4 g.1, m18 g.1, m22 g.1, m21 g.1, (eq_false (show ¬ (2 : Int32) = 0 by decide)), (eq_false (show ¬ (2 : Int32) = 1 by decide))]
  try rfl
theorem m106_3 (g : gT h b tp rd pl s t lea Z) (hQ : 0 ≤ Q 0 1) (hn : ntL n 120 = false) : xe (ixP fv) (d + 7) 106 0 [some (.ref b), some (.int n), some (.int 3), none] [] (wC h pl t p2 Q A) = some (.inl (some (.int (fsL Q Z A n 3))), wAr h pl t Q (fsM Q Z A n)) := by
  have e : gnL Q (cfL Z A) n = fsM Q Z A n := rfl
  simp only [q106_0, q106_1, q106_3, q106_6, q106_12, q106_19, q106_20, q106_21, q106_24, q106_30, q106_37, q106_38, q106_41, q106_42, q106_45, q106_48, q106_49, q106_52, q106_53, q106_56, q106_57, q106_58, q106_84, q106_85 (st := []), q106_86, q106_87, q106_90, q106_91, q106_92, q106_95, q106_98, q106_101, q106_104 (st := []), q106_105, q106_106, q106_109, q106_112 (st := []), q106_113, q106_114, q106_117, q106_120 (st := []), i10, eq_self, ft0, ft1, b01_ft, k1r, k1i, xG_some, xH_some, xC_v, xC_n, if_true, if_false, not_true_eq_false, not_false_eq_true, ix_st, ix_st2, List.getElem?_cons_succ, List.getElem?_cons_zero, List.set_cons_succ, List.set_cons_zero, Value.category, List.map_cons, List.map_nil, List.sum_cons, List.sum_nil, Nat.reduceAdd, Nat.reduceLeDiff, Nat.reduceEqDiff, Nat.zero_le, reduceCtorEq, reduceIte, xit, b01_z, b01_o, b01_t, b01_f, Bool.not_eq_true, Bool.true_eq_false, Bool.false_eq_true, not_true, not_false_eq_true, eq_self, rC2 g, rC3 g, rZ3 g, m113, hn, m112, show inL 3 4 = false by decide, isCt g, isAA g.1, m3 g, m4 g.1 hQ, e, rAa0 g.1, rAp4 g.1, m18 g.1, m22 g.1, m21 g.1, (eq_false (show ¬ (3 : Int32) = 0 by decide)), (eq_false (show ¬ (3 : Int32) = 1 by decide)), (eq_false (show ¬ (3 : Int32) = 2 by decide))]
  try rfl
def coA (Q Z A : Mem) (n : Int32) : Mem := gnL Q (cfL Z A) n
def coB (Q Z A : Mem) (n w : Int32) : Mem := gnL Q (sm (cfL Z (coA Q Z A n)) 0 1 w) n
theorem m107 (g : gT h b tp rd pl s t lea Z) (hQ : 0 ≤ Q 0 1) (hn : ntL n 90 = false) (hw : nwL v = false) : xe (ixP fv) (d + 7) 107 0 [some (.ref b), some (.int n), some (.int v), none] [] (wC h pl t p2 Q A) = some (.inl (some (.int (adL Q (coB Q Z A n v) - adL Q (coA Q Z A n)))), wAr h pl t Q (coB Q Z A n v)) := by
  have e : gnL Q (cfL Z A) n = coA Q Z A n := rfl
  have e' : gnL Q (sm (cfL Z (coA Q Z A n)) 0 1 v) n = coB Q Z A n v := rfl
  have h3 := fun A => m3 (fv := fv) (d := d + 5) (p2 := pl) (Q := Q) (A := A) g
  simp only [wC_A] at h3
  simp only [q107_0, q107_1, q107_3, q107_6, q107_9, q107_10, q107_13, q107_19, q107_26, q107_27, q107_30, q107_31, q107_34, q107_37, q107_38, q107_41, q107_42, q107_45, q107_46, q107_47, q107_50, q107_53, q107_54, q107_55, q107_58, q107_59, q107_62, q107_65, q107_66, q107_69, q107_70, q107_73, q107_74, q107_77, q107_78, q107_81, q107_82, q107_83, q107_86, q107_89, q107_90, q107_91 (st := []), i10, eq_self, ft0, ft1, b01_ft, k1r, k1i, xG_some, xH_some, xC_v, xC_n, if_true, if_false, not_true_eq_false, not_false_eq_true, ix_st, ix_st2, List.getElem?_cons_succ, List.getElem?_cons_zero, List.set_cons_succ, List.set_cons_zero, Value.category, List.map_cons, List.map_nil, List.sum_cons, List.sum_nil, Nat.reduceAdd, Nat.reduceLeDiff, Nat.reduceEqDiff, Nat.zero_le, reduceCtorEq, reduceIte, xit, b01_z, b01_o, b01_t, b01_f, Bool.not_eq_true, Bool.true_eq_false, Bool.false_eq_true, not_true, not_false_eq_true, eq_self, rC2 g, rC3 g, rZ2 g, rZ3 g, m113, hn, m114, hw, isCt g, isAA g.1, m3 g, h3, m4 g.1 hQ, e, e', wAra2 g.1, m22 g.1, ix_k1, beq_self_eq_true]
def avT : Type := Int32 × Int32 × Nat × Mem
def adB (Q Z A : Mem) (c n k : Int32) : Mem := gnL Q (sp (cfL Z A) 4 3 c k) n
def adS (Q Z : Mem) (c n k : Int32) (s : Int32 × Int32 × Mem) : Int32 × Int32 × Mem := if liL (adB Q Z s.2.2 c n k) 0 (Q 0 1) ≤ s.2.1 then (s.1, s.2.1, adB Q Z s.2.2 c n k) else (k, liL (adB Q Z s.2.2 c n k) 0 (Q 0 1), adB Q Z s.2.2 c n k)
def avL (Q Z A : Mem) (c n : Int32) : Int32 × Int32 × Mem := itI (adS Q Z c n) 0 (rng 0 (Q 0 1)) (-1, -1, A)
theorem m108_s (g : gT h b tp rd pl s t lea Z) (hQ : 0 ≤ Q 0 1) (hc : ¬ Q 0 1 ≤ i) {j : Option Value} : xe (ixP fv) (d + 7) 108 54 [some (.ref b), some (.int c), some (.int n), some (.int a), some (.int e), some (.int i), j] [] (wC h pl t p2 Q A) = xe (ixP fv) (d + 7) 108 54 [some (.ref b), some (.int c), some (.int n), some (.int (adS Q Z c n i (a, e, A)).1), some (.int (adS Q Z c n i (a, e, A)).2.1), some (.int (i + 1)), some (.int (liL (adB Q Z A c n i) 0 (Q 0 1)))] [] (wC h pl t pl Q (adS Q Z c n i (a, e, A)).2.2) := by
  have e' : gnL Q (sp (cfL Z A) 4 3 c i) n = adB Q Z A c n i := rfl
  unfold adS
  by_cases c1 : liL (adB Q Z A c n i) 0 (Q 0 1) ≤ e <;> simp only [q108_54 (x := i), q108_56, q108_57, q108_60, q108_63, q108_66, q108_69, q108_70, q108_73, q108_74, q108_77, q108_80, q108_81, q108_84, q108_87, q108_88, q108_90, q108_93, q108_94, q108_97, q108_98, q108_101, q108_102, q108_103, q108_106, q108_107, q108_108, q108_111, q108_114, q108_117, q108_120, q108_122, q108_124, q108_126, q108_129, q108_131, q108_132, q108_134, q108_136, q108_139, i10, eq_self, ft0, ft1, b01_ft, k1r, k1i, xG_some, xH_some, xC_v, xC_n, if_true, if_false, not_true_eq_false, not_false_eq_true, ix_st, ix_st2, List.getElem?_cons_succ, List.getElem?_cons_zero, List.set_cons_succ, List.set_cons_zero, Value.category, List.map_cons, List.map_nil, List.sum_cons, List.sum_nil, Nat.reduceAdd, Nat.reduceLeDiff, Nat.reduceEqDiff, Nat.zero_le, reduceCtorEq, reduceIte, xit, b01_z, b01_o, b01_t, b01_f, Bool.not_eq_true, Bool.true_eq_false, Bool.false_eq_true, not_true, not_false_eq_true, eq_self, hc, rC2 g, rC3 g, rZ3 g, rCs0 g, rCp4 g, isCt g, isAA g.1, m3 g, rAa8 g.1, m117 (iA4 g.1) (oA4 g.1), pA4 g.1, m4 g.1 hQ, e', rAa0 g.1, rAp4 g.1, m18 g.1, ix_k1, beq_self_eq_true, c1, wC_A]
theorem m108 (g : gT h b tp rd pl s t lea Z) (hQ : 0 ≤ Q 0 1) (hp : inL c (Q 0 3) = false) (hn : ntL n 24 = false) : ∃ q2, xe (ixP fv) (d + 7) 108 0 [some (.ref b), some (.int c), some (.int n), none, none, none, none] [] (wC h pl t p2 Q A) = some (.inl (some (.int ((avL Q Z A c n).1))), wC h pl t q2 Q (avL Q Z A c n).2.2) := by
  have key := lpJ' (J := Option Value × Nat) (X := fun j i s => xe (ixP fv) (d + 7) 108 54 [some (.ref b), some (.int c), some (.int n), some (.int s.1), some (.int s.2.1), some (.int i), j.1] [] (wC h pl t j.2 Q s.2.2)) (to := Q 0 1) (f := adS Q Z c n) (fun j i s hc => ⟨(some (.int (liL (adB Q Z s.2.2 c n i) 0 (Q 0 1))), pl), m108_s g hQ hc⟩) (none, p2) 0 (-1, -1, A)
  obtain ⟨j', i', hi, key⟩ := key
  refine ⟨j'.2, ?_⟩
  simp only [q108_0, q108_1, q108_2, q108_5, q108_8, q108_11, q108_14, q108_20, q108_27, q108_28, q108_30, q108_33, q108_39, q108_46, q108_47, q108_48, q108_49, q108_51, q108_52, i10, eq_self, ft0, ft1, b01_ft, k1r, k1i, xG_some, xH_some, xC_v, xC_n, if_true, if_false, not_true_eq_false, not_false_eq_true, ix_st, ix_st2, List.getElem?_cons_succ, List.getElem?_cons_zero, List.set_cons_succ, List.set_cons_zero, Value.category, List.map_cons, List.map_nil, List.sum_cons, List.sum_nil, Nat.reduceAdd, Nat.reduceLeDiff, Nat.reduceEqDiff, Nat.zero_le, reduceCtorEq, reduceIte, xit, b01_z, b01_o, b01_t, b01_f, Bool.not_eq_true, Bool.true_eq_false, Bool.false_eq_true, not_true, not_false_eq_true, eq_self, rC2 g, rCs0 g, rCp11 g, m112, hp, m113, hn]
  refine key.trans ?_
  simp only [q108_54, q108_56, q108_57, q108_60, q108_63, q108_66, q108_142, q108_143 (st := []), i10, eq_self, ft0, ft1, b01_ft, k1r, k1i, xG_some, xH_some, xC_v, xC_n, if_true, if_false, not_true_eq_false, not_false_eq_true, ix_st, ix_st2, List.getElem?_cons_succ, List.getElem?_cons_zero, List.set_cons_succ, List.set_cons_zero, Value.category, List.map_cons, List.map_nil, List.sum_cons, List.sum_nil, Nat.reduceAdd, Nat.reduceLeDiff, Nat.reduceEqDiff, Nat.zero_le, reduceCtorEq, reduceIte, xit, b01_z, b01_o, b01_t, b01_f, Bool.not_eq_true, Bool.true_eq_false, Bool.false_eq_true, not_true, not_false_eq_true, eq_self, hi, rC2 g, rCs0 g, rCp4 g]
  rfl
def prB (Q Z A : Mem) (n k : Int32) : Mem := gnL Q (sm (cfL Z A) 0 3 k) n
def prS (Q Z : Mem) (n k : Int32) (s : Int32 × Int32 × Mem) : Int32 × Int32 × Mem := if liL (prB Q Z s.2.2 n k) 0 (Q 0 1) ≤ s.2.1 then (s.1, s.2.1, prB Q Z s.2.2 n k) else (k, liL (prB Q Z s.2.2 n k) 0 (Q 0 1), prB Q Z s.2.2 n k)
def prL (Q Z A : Mem) (n : Int32) : Int32 × Int32 × Mem := itI (prS Q Z n) 0 (rng 0 (Q 0 3)) (-1, -1, A)
theorem m109_s (g : gT h b tp rd pl s t lea Z) (hQ : 0 ≤ Q 0 1) (hc : ¬ Q 0 3 ≤ i) {j : Option Value} : xe (ixP fv) (d + 7) 109 26 [some (.ref b), some (.int n), some (.int a), some (.int e), some (.int i), j] [] (wC h pl t p2 Q A) = xe (ixP fv) (d + 7) 109 26 [some (.ref b), some (.int n), some (.int (prS Q Z n i (a, e, A)).1), some (.int (prS Q Z n i (a, e, A)).2.1), some (.int (i + 1)), some (.int (liL (prB Q Z A n i) 0 (Q 0 1)))] [] (wC h pl t pl Q (prS Q Z n i (a, e, A)).2.2) := by
  have e' : gnL Q (sm (cfL Z A) 0 3 i) n = prB Q Z A n i := rfl
  unfold prS
  by_cases c1 : liL (prB Q Z A n i) 0 (Q 0 1) ≤ e <;> simp only [q109_26 (x := i), q109_28, q109_29, q109_32, q109_35, q109_38, q109_41, q109_42, q109_45, q109_46, q109_49, q109_52, q109_53, q109_56, q109_58, q109_61, q109_62, q109_65, q109_66, q109_69, q109_70, q109_71, q109_74, q109_75, q109_76, q109_79, q109_82, q109_85, q109_88, q109_90, q109_92, q109_93, q109_96, q109_98, q109_99, q109_101, q109_102, q109_105, i10, eq_self, ft0, ft1, b01_ft, k1r, k1i, xG_some, xH_some, xC_v, xC_n, if_true, if_false, not_true_eq_false, not_false_eq_true, ix_st, ix_st2, List.getElem?_cons_succ, List.getElem?_cons_zero, List.set_cons_succ, List.set_cons_zero, Value.category, List.map_cons, List.map_nil, List.sum_cons, List.sum_nil, Nat.reduceAdd, Nat.reduceLeDiff, Nat.reduceEqDiff, Nat.zero_le, reduceCtorEq, reduceIte, xit, b01_z, b01_o, b01_t, b01_f, Bool.not_eq_true, Bool.true_eq_false, Bool.false_eq_true, not_true, not_false_eq_true, eq_self, hc, rC2 g, rC3 g, rZ3 g, rCs0 g, rCp11 g, isCt g, isAA g.1, m3 g, wAra4 g.1, m4 g.1 hQ, e', rAa0 g.1, rAp4 g.1, m18 g.1, ix_k1, beq_self_eq_true, c1, wC_A]
theorem m109 (g : gT h b tp rd pl s t lea Z) (hQ : 0 ≤ Q 0 1) (hn : ntL n 90 = false) : ∃ q2, xe (ixP fv) (d + 7) 109 0 [some (.ref b), some (.int n), none, none, none, none] [] (wC h pl t p2 Q A) = some (.inl (some (.int ((prL Q Z A n).1))), wC h pl t q2 Q (prL Q Z A n).2.2) := by
  have key := lpJ' (J := Option Value × Nat) (X := fun j i s => xe (ixP fv) (d + 7) 109 26 [some (.ref b), some (.int n), some (.int s.1), some (.int s.2.1), some (.int i), j.1] [] (wC h pl t j.2 Q s.2.2)) (to := Q 0 3) (f := prS Q Z n) (fun j i s hc => ⟨(some (.int (liL (prB Q Z s.2.2 n i) 0 (Q 0 1))), pl), m109_s g hQ hc⟩) (none, p2) 0 (-1, -1, A)
  obtain ⟨j', i', hi, key⟩ := key
  refine ⟨j'.2, ?_⟩
  simp only [q109_0, q109_1, q109_3, q109_6, q109_12, q109_19, q109_20, q109_21, q109_22, q109_23, q109_24, i10, eq_self, ft0, ft1, b01_ft, k1r, k1i, xG_some, xH_some, xC_v, xC_n, if_true, if_false, not_true_eq_false, not_false_eq_true, ix_st, ix_st2, List.getElem?_cons_succ, List.getElem?_cons_zero, List.set_cons_succ, List.set_cons_zero, Value.category, List.map_cons, List.map_nil, List.sum_cons, List.sum_nil, Nat.reduceAdd, Nat.reduceLeDiff, Nat.reduceEqDiff, Nat.zero_le, reduceCtorEq, reduceIte, xit, b01_z, b01_o, b01_t, b01_f, Bool.not_eq_true, Bool.true_eq_false, Bool.false_eq_true, not_true, not_false_eq_true, eq_self, m113, hn]
  refine key.trans ?_
  simp only [q109_26, q109_28, q109_29, q109_32, q109_35, q109_38, q109_108, q109_109 (st := []), i10, eq_self, ft0, ft1, b01_ft, k1r, k1i, xG_some, xH_some, xC_v, xC_n, if_true, if_false, not_true_eq_false, not_false_eq_true, ix_st, ix_st2, List.getElem?_cons_succ, List.getElem?_cons_zero, List.set_cons_succ, List.set_cons_zero, Value.category, List.map_cons, List.map_nil, List.sum_cons, List.sum_nil, Nat.reduceAdd, Nat.reduceLeDiff, Nat.reduceEqDiff, Nat.zero_le, reduceCtorEq, reduceIte, xit, b01_z, b01_o, b01_t, b01_f, Bool.not_eq_true, Bool.true_eq_false, Bool.false_eq_true, not_true, not_false_eq_true, eq_self, hi, rC2 g, rCs0 g, rCp11 g]
  rfl
end TRY
