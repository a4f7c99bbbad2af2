/-! THE START: an arcade while it is made by the list (written by gen9998.py). -/
def sK (k : Nat) : List Int32 := ixS.getD k []
def OA (m c : Nat) (D : Nat → Nat) : ix_C := .inl (5, m, .inr (.inr (.inr (.inr (fun j => if j < c then some (D j) else none)))))
/-- old cells as they were -/
def OK (N : Nat) (xs : Nat → Int32) (h : ix_H) : Prop := ∀ q, q < 98 → h[q]? = (ixRO N xs)[q]?
/-- the list's state: text so far, Sim, its outer rows (c of n filled), its rows -/
def LB (N : Nat) (xs : Nat → Int32) (h : ix_H) (o v : Nat) (l : List Int32) (s : Nat) (X : Nat → Nat) (D : Nat → Nat → Nat) (n c : Nat → Nat) (M : Mm) : Prop :=
  isSB h o v l ∧ OK N xs h ∧ 98 ≤ h.length ∧ (98 ≤ s ∧ h[s]? = some (obS X M)) ∧ (∀ t, 1 ≤ t → t ≤ 6 → 98 ≤ X t ∧ n t ≤ 50 ∧ c t ≤ n t ∧ h[X t]? = some (OA (n t) (c t) (D t))) ∧ (∀ t r, 1 ≤ t → t ≤ 6 → r < c t → 98 ≤ D t r ∧ h[D t r]? = some (.inl (0, lnS t, .inl (M t r)))) ∧ (∀ t r t' r', 1 ≤ t → t ≤ 6 → r < c t → 1 ≤ t' → t' ≤ 6 → r' < c t' → D t r = D t' r' → t = t' ∧ r = r') ∧ (∀ t t', 1 ≤ t → t ≤ 6 → 1 ≤ t' → t' ≤ 6 → X t = X t' → t = t')
section ST0
variable {fv : Value} {d : Nat} {h h' : ix_H} {o v v' s q w k m t r N : Nat} {xs : Nat → Int32} {l l' : List Int32} {X X' : Nat → Nat} {D D' : Nat → Nat → Nat} {n c : Nat → Nat} {M : Mm}
theorem OK_get (g : OK N xs h) (hq : q < 98) : ∃ x, h[q]? = some x ∧ (ixRO N xs)[q]? = some x := by
  have hl : q < (ixRO N xs).length := by rw [ixs_len]; exact hq
  exact ⟨_, (g q hq).trans (List.getElem?_eq_getElem hl), List.getElem?_eq_getElem hl⟩
theorem OK_0 (g : OK N xs h) : h[0]? = some (.inl (0, N, .inl xs)) := by
  obtain ⟨x, h1, h2⟩ := OK_get g (q := 0) (by decide)
  rcases ixs_ro h2 with ⟨-, e⟩ | ⟨i, hi, ⟨e, -⟩ | ⟨e, -⟩⟩ | ⟨e, -⟩ | ⟨e, -⟩ | ⟨e, -⟩
  · rw [h1, e]
  all_goals omega
theorem OK_old (g : OK N xs h) : old h := by
  obtain ⟨x, h1, h2⟩ := OK_get g (q := 95) (by decide)
  obtain ⟨y, k1, k2⟩ := OK_get g (q := 96) (by decide)
  refine ⟨?_, ?_⟩
  · rw [h1]
    rcases ixs_ro h2 with ⟨e, -⟩ | ⟨i, hi, ⟨e, -⟩ | ⟨e, -⟩⟩ | ⟨-, e⟩ | ⟨e, -⟩ | ⟨e, -⟩
    all_goals first | exact congrArg some e | (exfalso; omega)
  · rw [k1]
    rcases ixs_ro k2 with ⟨e, -⟩ | ⟨i, hi, ⟨e, -⟩ | ⟨e, -⟩⟩ | ⟨e, -⟩ | ⟨-, e⟩ | ⟨e, -⟩
    all_goals first | exact congrArg some e | (exfalso; omega)
/-- a constant -/
theorem OK_str (g : OK N xs h) (hk : k < 47) : isStr h (2 * k + 1) (2 * k + 2) (sK k) := by
  obtain ⟨x, h1, h2⟩ := OK_get g (q := 2 * k + 1) (by omega)
  obtain ⟨y, k1, k2⟩ := OK_get g (q := 2 * k + 2) (by omega)
  have ex : x = .inr (8, [.ref (2 * k + 2), .int 0]) := by
    rcases ixs_ro h2 with ⟨e, -⟩ | ⟨i, hi, ⟨e, e2⟩ | ⟨e, -⟩⟩ | ⟨e, -⟩ | ⟨e, -⟩ | ⟨e, -⟩
    all_goals first | (rw [e2, show i = k by omega]) | (exfalso; omega)
  have ey : y = .inl (2, (sK k).length, .inl (fun j => (sK k).getD j 0)) := by
    rcases ixs_ro k2 with ⟨e, -⟩ | ⟨i, hi, ⟨e, -⟩ | ⟨e, e2⟩⟩ | ⟨e, -⟩ | ⟨e, -⟩ | ⟨e, -⟩
    all_goals first | (rw [e2, show i = k by omega]; rfl) | (exfalso; omega)
  refine ⟨_, [], by rw [h1, ex], by rw [k1, ey], fun j hj => ?_⟩
  rw [List.getD_eq_getElem?_getD, List.getElem?_eq_getElem hj]
  rfl
theorem isSB_ext (g : isSB h o v l) (hx : ∀ q, q < h.length → h'[q]? = h[q]?) : isSB h' o v l := by
  obtain ⟨cap, a, mb, e1, e2, e3⟩ := g
  exact ⟨cap, a, mb, (hx o (lt_of e1)).trans e1, (hx v (lt_of e2)).trans e2, e3⟩
/-- text has grown, or only new things have come -/
theorem LB_frm (g : LB N xs h o v l s X D n c M) (hf : frm h h' o v) (hs : isSB h' o v' l') : LB N xs h' o v' l' s X D n c M := by
  obtain ⟨⟨cap, a, mb, e1, e2, e3, e4, e5, e6, e7⟩, g2, g3, ⟨g4, g5⟩, g6, g7, g8⟩ := g
  have kp : ∀ q (x : ix_C), h[q]? = some x → (∀ fs, x ≠ .inr (9, fs)) → (∀ m b, x ≠ .inl (2, m, b)) → h'[q]? = some x := fun q x e n1 n2 => by
    have ho : q ≠ o := fun q' => n1 _ (Option.some.inj (e.symm.trans (by rw [q']; exact e1)))
    have hv : q ≠ v := fun q' => n2 _ _ (Option.some.inj (e.symm.trans (by rw [q']; exact e2)))
    rw [hf.2 q (lt_of e) ho hv, e]
  refine ⟨hs, fun q hq => ?_, Nat.le_trans g3 hf.1, ⟨g4, kp s _ g5 (fun fs e => by cases e) (fun m b e => by cases e)⟩, fun t h1 h6 => ?_, fun t r h1 h6 hr => ?_, g8⟩
  · rw [hf.2 q (by omega) (by omega) (by omega)]
    exact g2 q hq
  · obtain ⟨a1, a2, a3, a4⟩ := g6 t h1 h6
    exact ⟨a1, a2, a3, kp _ _ a4 (fun fs e => by cases e) (fun m b e => by cases e)⟩
  · obtain ⟨a1, a2⟩ := g7 t r h1 h6 hr
    exact ⟨a1, kp _ _ a2 (fun fs e => by cases e) (fun m b e => by cases e)⟩
theorem LB_ext (g : LB N xs h o v l s X D n c M) (hl : h.length ≤ h'.length) (hx : ∀ q, q < h.length → h'[q]? = h[q]?) : LB N xs h' o v l s X D n c M := LB_frm g ⟨hl, fun q hq _ _ => hx q hq⟩ (isSB_ext g.1 hx)
theorem LB_push (g : LB N xs h o v l s X D n c M) {x : ix_C} : LB N xs (h ++ [x]) o v l s X D n c M := LB_ext g (by rw [List.length_append]; exact Nat.le_add_right _ _) (fun q hq => List.getElem?_append_left hq)
/-- a constant behind the text -/
theorem LB_app (g : LB N xs h o v l s X D n c M) (hk : k < 47) (hl : l.length + (sK k).length ≤ 2000) : ∃ h' v', xe (ixP fv) (d + 4) 157 0 [some (.ref o), some (.ref (2 * k + 1))] [] h = some (.inl (some (.ref o)), h') ∧ LB N xs h' o v' (l ++ sK k) s X D n c M ∧ h'.length ≤ h.length + 1 ∧ ix_sz h' ≤ ix_sz h + 4002 := by
  have hv : 98 ≤ v := by
    obtain ⟨cap, a, mb, e1, e2, e3, e4, e5, e6, e7⟩ := g.1
    exact e7
  obtain ⟨h', v', e1, e2, e3, e4, e5, e6⟩ := m157 (fv := fv) (d := d) g.1 (OK_str g.2.1 hk) (by omega) (by omega)
  exact ⟨h', v', e1, LB_frm g e4 e2, e5, by omega⟩
/-- a string that was made -/
theorem LB_apq (g : LB N xs h o v l s X D n c M) (hq : isStr h q w l') (hw : w ≠ v) (hl : l.length + l'.length ≤ 2000) : ∃ h' v', xe (ixP fv) (d + 4) 157 0 [some (.ref o), some (.ref q)] [] h = some (.inl (some (.ref o)), h') ∧ LB N xs h' o v' (l ++ l') s X D n c M ∧ h'.length ≤ h.length + 1 ∧ ix_sz h' ≤ ix_sz h + 4002 := by
  obtain ⟨h', v', e1, e2, e3, e4, e5, e6⟩ := m157 (fv := fv) (d := d) g.1 hq hw (by omega)
  exact ⟨h', v', e1, LB_frm g e4 e2, e5, by omega⟩
/-- a number behind the text -/
theorem LB_int (g : LB N xs h o v l s X D n c M) (hm : m < 1000) (hl : l.length ≤ 1990) : ∃ h' v', xe (ixP fv) (d + 4) 158 0 [some (.ref o), some (.int (nI m))] [] h = some (.inl (some (.ref o)), h') ∧ LB N xs h' o v' (l ++ dgt m) s X D n c M ∧ h'.length ≤ h.length + 1 ∧ ix_sz h' ≤ ix_sz h + 4002 := by
  obtain ⟨h', v', e1, e2, e3, e4, e5, e6⟩ := m158 (fv := fv) (d := d) g.1 (OK_old g.2.1) hm (by omega)
  exact ⟨h', v', e1, LB_frm g e4 e2, e5, by omega⟩
/-- one more -/
def upT (c : Nat → Nat) (t x : Nat) : Nat → Nat := fun t' => if t' = t then x else c t'
def upR (D : Nat → Nat → Nat) (t r x : Nat) : Nat → Nat → Nat := fun t' r' => if t' = t ∧ r' = r then x else D t' r'
theorem upR_e {x : Nat} : upR D t r x t r = x := if_pos ⟨rfl, rfl⟩
theorem upT_e {x : Nat} : upT c t x t = x := if_pos rfl
theorem LB_row (g : LB N xs h o v l s X D n c M) (h1 : 1 ≤ t) (h6 : t ≤ 6) (hc : c t = r) (hr : r < n t) : wQ (ixP fv) (h ++ [(.inl (0, lnS t, .inl (M t r)) : ix_C)]) (X t) (nI r) h.length = some ((h ++ [(.inl (0, lnS t, .inl (M t r)) : ix_C)]).set (X t) (OA (n t) (r + 1) (upR D t r h.length t))) ∧ LB N xs ((h ++ [(.inl (0, lnS t, .inl (M t r)) : ix_C)]).set (X t) (OA (n t) (r + 1) (upR D t r h.length t))) o v l s X (upR D t r h.length) n (upT c t (r + 1)) M := by
  have g0 := LB_push g (x := .inl (0, lnS t, .inl (M t r)))
  obtain ⟨b1, b2, b3, b4⟩ := g0.2.2.2.2.1 t h1 h6
  have hx := (g.2.2.2.2.1 t h1 h6).2.2.2
  have hXl := lt_of hx
  have hin : ix_in (nI r) (n t) = true := in_big hr (by omega)
  have hfun : va_up (fun j => if j < c t then some (D t j) else none) (nI r).toNatClampNeg (some h.length) = fun j => if j < r + 1 then some (upR D t r h.length t j) else none := by
    rw [nI_clamp (by omega)]
    funext j
    unfold va_up upR
    rw [hc]
    by_cases e : j = r
    · subst e
      rw [if_pos rfl, if_pos (Nat.lt_succ_self _), if_pos ⟨rfl, rfl⟩]
    · rw [if_neg e]
      show (if j < r then some (D t j) else none) = _
      by_cases e2 : j < r
      · rw [if_pos e2, if_pos (by omega), if_neg (fun q => e q.2)]
      · rw [if_neg e2, if_neg (by omega)]
  have h98 := g.2.2.1
  refine ⟨?_, ?_⟩
  · unfold wQ ix_aq ix_ai
    rw [b4, get_end]
    show (if 98 ≤ X t ∧ 98 ≤ h.length ∧ 5 = 5 ∧ 0 = 0 ∧ ix_in (nI r) (n t) = true then some ((h ++ [(.inl (0, lnS t, .inl (M t r)) : ix_C)]).set (X t) (.inl (5, n t, .inr (.inr (.inr (.inr (va_up (fun j => if j < c t then some (D t j) else none) (nI r).toNatClampNeg (some h.length)))))))) else none) = _
    refine (if_pos ⟨b1, h98, rfl, rfl, hin⟩).trans ?_
    rw [hfun]
    rfl
  · obtain ⟨⟨cap, a, mb, e1, e2, e3⟩, g2, g3, ⟨g4, g5⟩, g6, g7, g8, g9⟩ := g0
    have ne : ∀ q (y : ix_C), (h ++ [(.inl (0, lnS t, .inl (M t r)) : ix_C)] : ix_H)[q]? = some y → (∀ m b, y ≠ .inl (5, m, b)) → X t ≠ q := by
      intro q y e nn q'
      rw [← q', b4] at e
      exact nn _ _ (Option.some.inj e).symm
    have kp : ∀ q (y : ix_C), (h ++ [(.inl (0, lnS t, .inl (M t r)) : ix_C)] : ix_H)[q]? = some y → (∀ m b, y ≠ .inl (5, m, b)) → ((h ++ [(.inl (0, lnS t, .inl (M t r)) : ix_C)]).set (X t) (OA (n t) (r + 1) (upR D t r h.length t)))[q]? = some y := fun q y e nn => by
      rw [List.getElem?_set_ne (ne q y e nn), e]
    refine ⟨⟨cap, a, mb, kp o _ e1 (fun m b e => by cases e), kp v _ e2 (fun m b e => by cases e), e3⟩, fun q hq => ?_, by rw [List.length_set]; exact g3, ⟨g4, kp s _ g5 (fun m b e => by cases e)⟩, fun t' i1 i6 => ?_, fun t' r' i1 i6 hr' => ?_, fun t' r' t'' r'' i1 i6 hr' j1 j6 hr'' e => ?_, g9⟩
    · rw [List.getElem?_set_ne (by omega)]
      exact g2 q hq
    · obtain ⟨a1, a2, a3, a4⟩ := g6 t' i1 i6
      by_cases et : t' = t
      · subst et
        rw [upT_e, get_set b4]
        exact ⟨a1, a2, hr, rfl⟩
      · have hX : X t ≠ X t' := fun e => et (g9 t t' h1 h6 i1 i6 e).symm
        rw [List.getElem?_set_ne hX]
        unfold upT
        rw [if_neg et, a4]
        refine ⟨a1, a2, a3, ?_⟩
        congr 2
        funext j
        unfold upR
        rw [if_neg (fun q => et q.1)]
    · by_cases et : t' = t ∧ r' = r
      · obtain ⟨et, er⟩ := et
        subst et er
        rw [upR_e]
        exact ⟨h98, kp _ _ get_end (fun m b e => by cases e)⟩
      · have hr'' : r' < c t' := by
          unfold upT at hr'
          by_cases et' : t' = t
          · subst et'
            rw [if_pos rfl] at hr'
            have : r' ≠ r := fun e => et ⟨rfl, e⟩
            omega
          · rw [if_neg et'] at hr'
            exact hr'
        obtain ⟨a1, a2⟩ := g7 t' r' i1 i6 hr''
        unfold upR
        rw [if_neg et]
        exact ⟨a1, kp _ _ a2 (fun m b e => by cases e)⟩
    · have sm : ∀ t' r', r' < upT c t (r + 1) t' → ¬ (t' = t ∧ r' = r) → r' < c t' := fun t' r' hr' et => by
        unfold upT at hr'
        by_cases et' : t' = t
        · subst et'
          rw [if_pos rfl] at hr'
          have : r' ≠ r := fun e => et ⟨rfl, e⟩
          omega
        · rw [if_neg et'] at hr'
          exact hr'
      unfold upR at e
      by_cases et : t' = t ∧ r' = r
      · rw [if_pos et] at e
        by_cases et2 : t'' = t ∧ r'' = r
        · exact ⟨et.1.trans et2.1.symm, et.2.trans et2.2.symm⟩
        · rw [if_neg et2] at e
          have := lt_of (g.2.2.2.2.2.1 t'' r'' j1 j6 (sm _ _ hr'' et2)).2
          omega
      · rw [if_neg et] at e
        by_cases et2 : t'' = t ∧ r'' = r
        · rw [if_pos et2] at e
          have := lt_of (g.2.2.2.2.2.1 t' r' i1 i6 (sm _ _ hr' et)).2
          omega
        · rw [if_neg et2] at e
          exact g8 t' r' t'' r'' i1 i6 (sm _ _ hr' et) j1 j6 (sm _ _ hr'' et2) e
end ST0
