/-! BEGIN AND TEACH (written by gen9999992.py). -/
def bgL (Q A : Mem) : Mem := (flm (flm (flm (flm (cpm (flm (flm (flm (sm A 0 2 0) 1 40 0) 2 40 0) 3 40 0) 4 3 (Q 9)) 5 3 20) 6 3 0) 7 3 (-1)) 8 3 0)
section TCH
variable {fv : Value} {d : Nat} {h G : ix_H} {o b r pl p0 tp t t2 q k i m s n : Nat} {N Q Q0 A : Mem} {L L0 : Jem} {ce : Nat → Int32} {T : Nat → Int32} {v : Int32} {a : Nat → Int32}
theorem m119 (ho : isI h o = true) (h98 : 98 ≤ o) : xe (ixP fv) d 119 0 [some (.ref o), some (.int v), none] [] h = some (.inl none, fl h o v) := by
  obtain ⟨n, a, e, hn⟩ := isI_of ho
  have hlt := lt_of e
  have key : ∀ r k (a' : Nat → Int32) (h' : ix_H), k + r = n → h'[o]? = some (.inl (0, n, .inl a')) → xe (ixP fv) d 119 2 [some (.ref o), some (.int v), some (.int (nI k))] [] h' = some (.inl none, h'.set o (.inl (0, n, .inl (fun j => if j < k then a' j else if j < n then v else a' j)))) := by
    intro r
    induction r with
    | zero =>
      intro k a' h' hk e'
      have e1 : rN (ixP fv) h' o = some (.int (nI n)) := rN_of e' (by decide)
      have hkn : k = n := hk
      subst hkn
      have c : nI k ≤ nI k := nI_le (Nat.le_refl _) (by omega)
      have es : h'.set o (.inl (0, k, .inl (fun j => if j < k then a' j else if j < k then v else a' j))) = h' := by
        have : (fun j => if j < k then a' j else if j < k then v else a' j) = a' := by
          funext j
          by_cases c : j < k
          · rw [if_pos c]
          · rw [if_neg c, if_neg c]
        rw [this]
        obtain ⟨h1, h2⟩ := List.getElem?_eq_some_iff.mp e'
        rw [← h2, List.set_getElem_self]
      rw [es]
      simp only [q119_2 (x := nI k), q119_3, q119_4, q119_5, q119_18 (st := []), i10, eq_self, ft0, ft1, b01_ft, k1r, k1i, xG_some, xH_some, xC_v, xC_n, if_true, if_false, not_true_eq_false, not_false_eq_true, ix_st, ix_st2, List.getElem?_cons_succ, List.getElem?_cons_zero, List.set_cons_succ, List.set_cons_zero, Value.category, List.map_cons, List.map_nil, List.sum_cons, List.sum_nil, Nat.reduceAdd, Nat.reduceLeDiff, Nat.reduceEqDiff, Nat.zero_le, reduceCtorEq, ↓reduceIte, eq_self, Bool.not_eq_true, Bool.true_eq_false, Bool.false_eq_true, not_true, not_false_eq_true, e1, c]
    | succ r ih =>
      intro k a' h' hk e'
      have e1 : rN (ixP fv) h' o = some (.int (nI n)) := rN_of e' (by decide)
      have c : ¬ nI n ≤ nI k := nI_ge (by omega) (by omega)
      have e2 : wA (ixP fv) h' o (nI k) v = some (h'.set o (.inl (0, n, .inl (upd a' k v)))) := by
        have := wA_of (fv := fv) (v := v) e' h98 (i := nI k) (in_big (by omega) hn)
        rw [nI_clamp (by omega)] at this
        exact this
      have e3 := ih (k + 1) (upd a' k v) (h'.set o (.inl (0, n, .inl (upd a' k v)))) (by omega) (List.getElem?_set_self (lt_of e'))
      have e4 : (fun j => if j < k + 1 then upd a' k v j else if j < n then v else upd a' k v j) = (fun j => if j < k then a' j else if j < n then v else a' j) := by
        funext j
        by_cases c1 : j = k
        · subst c1
          rw [if_pos (Nat.lt_succ_self _), upd_eq, if_neg (Nat.lt_irrefl _), if_pos (by omega)]
        · rw [upd_ne c1]
          by_cases c2 : j < k
          · rw [if_pos (by omega), if_pos c2]
          · rw [if_neg (by omega), if_neg c2]
      rw [List.set_set, e4] at e3
      simp only [q119_2 (x := nI k), q119_3, q119_4, q119_5, q119_8, q119_9, q119_10, q119_11, q119_12, q119_15, i10, eq_self, ft0, ft1, b01_ft, k1r, k1i, xG_some, xH_some, xC_v, xC_n, if_true, if_false, not_true_eq_false, not_false_eq_true, ix_st, ix_st2, List.getElem?_cons_succ, List.getElem?_cons_zero, List.set_cons_succ, List.set_cons_zero, Value.category, List.map_cons, List.map_nil, List.sum_cons, List.sum_nil, Nat.reduceAdd, Nat.reduceLeDiff, Nat.reduceEqDiff, Nat.zero_le, reduceCtorEq, ↓reduceIte, eq_self, Bool.not_eq_true, Bool.true_eq_false, Bool.false_eq_true, not_true, not_false_eq_true, e1, e2, c, nI_1]
      exact e3
  have e0 := key n 0 a h (Nat.zero_add _) e
  have ef : fl h o v = h.set o (.inl (0, n, .inl (fun j => if j < 0 then a j else if j < n then v else a j))) := by
    unfold fl
    rw [e]
    have : (fun j => if j < 0 then a j else if j < n then v else a j) = (fun j => if j < n then v else a j) := by
      funext j
      rw [if_neg (Nat.not_lt_zero _)]
    rw [this]
  rw [ef, ← e0]
  simp only [q119_0, q119_1, i10, eq_self, ft0, ft1, b01_ft, k1r, k1i, xG_some, xH_some, xC_v, xC_n, if_true, if_false, not_true_eq_false, not_false_eq_true, ix_st, ix_st2, List.getElem?_cons_succ, List.getElem?_cons_zero, List.set_cons_succ, List.set_cons_zero, Value.category, List.map_cons, List.map_nil, List.sum_cons, List.sum_nil, Nat.reduceAdd, Nat.reduceLeDiff, Nat.reduceEqDiff, Nat.zero_le, reduceCtorEq, ↓reduceIte, eq_self, Bool.not_eq_true, Bool.true_eq_false, Bool.false_eq_true, not_true, not_false_eq_true]
  rfl
theorem m45 (g : gR h r pl) (h2 : N 0 2 = 0) (h3 : N 0 3 = 0) : xe (ixP fv) (d + 1) 45 0 [some (.ref r)] [] (wR h r pl N L Q) = some (.inl (some (.int (-1))), wR h r pl N L Q) := by
  simp only [q45_0, q45_1, q45_4, q45_22, q45_23, q45_26, q45_29, q45_30, q45_47 (st := []), i10, eq_self, ft0, ft1, b01_ft, k1r, k1i, xG_some, xH_some, xC_v, xC_n, if_true, if_false, not_true_eq_false, not_false_eq_true, ix_st, ix_st2, List.getElem?_cons_succ, List.getElem?_cons_zero, List.set_cons_succ, List.set_cons_zero, Value.category, List.map_cons, List.map_nil, List.sum_cons, List.sum_nil, Nat.reduceAdd, Nat.reduceLeDiff, Nat.reduceEqDiff, Nat.zero_le, reduceCtorEq, ↓reduceIte, eq_self, Bool.not_eq_true, Bool.true_eq_false, Bool.false_eq_true, not_true, not_false_eq_true, rR8 g, rR9 g, h2, h3]
theorem m46 {v0 v1 v2 v3 v4 v6 v7 v8 v9 v10 : Value} (e : h[r]? = some (.inr (3, [v0, v1, v2, v3, v4, .ref pl, v6, v7, v8, v9, v10]))) (h98 : 98 ≤ r) : xe (ixP fv) d 46 0 [some (.ref r), some (.ref p0), none] [] h = some (.inl (some (.ref pl)), h.set r (.inr (3, [v0, v1, v2, v3, v4, .ref p0, v6, v7, v8, v9, v10]))) := by
  have e1 : ∀ ty fin X, rF (ixP fv) h r (3, 5, ty, fin, X) = some (.ref pl) := fun ty fin X => rF_of e h98 rfl
  have e2 : ∀ X, wF (ixP fv) h r (3, 5, (.object "SkylightWash$Plan"), false, X) false (.ref p0) = some (h.set r (.inr (3, [v0, v1, v2, v3, v4, .ref p0, v6, v7, v8, v9, v10]))) := fun X => wF_of e h98 (by show _ < 11; decide) rfl (Or.inl rfl)
  simp only [q46_0, q46_1, q46_4, q46_5, q46_6, q46_7, q46_10, q46_11 (st := []), i10, eq_self, ft0, ft1, b01_ft, k1r, k1i, xG_some, xH_some, xC_v, xC_n, if_true, if_false, not_true_eq_false, not_false_eq_true, ix_st, ix_st2, List.getElem?_cons_succ, List.getElem?_cons_zero, List.set_cons_succ, List.set_cons_zero, Value.category, List.map_cons, List.map_nil, List.sum_cons, List.sum_nil, Nat.reduceAdd, Nat.reduceLeDiff, Nat.reduceEqDiff, Nat.zero_le, reduceCtorEq, ↓reduceIte, eq_self, Bool.not_eq_true, Bool.true_eq_false, Bool.false_eq_true, not_true, not_false_eq_true, e1, e2]
theorem cpy9 (g : gA h pl t) : cpy (wAr h pl t Q A) (pl + 9) (t + 4) = wAr h pl t Q (cpm A 4 3 (Q 9)) := by
  unfold cpy
  rw [wAr_p9 g, wAr_c4 g]
  show (wAr h pl t Q A).set (t + 4) _ = _
  refine (ov_set (cs := arc t pl A) (by show 4 < 10; decide)).trans (congrArg (ov (wP h pl Q) t) ?_)
  have : (fun j => if j < 3 ∧ j < 3 then Q 9 j else A 4 j) = (fun j => if j < 3 then Q 9 j else A 4 j) := by
    funext j
    simp only [and_self]
  rw [this]
  rfl
theorem m2 (g : gA h pl t) : xe (ixP fv) (d + 1) 2 0 [some (.ref t), some (.ref pl)] [] (wC h pl t p0 Q A) = some (.inl none, wAr h pl t Q (bgL Q A)) := by
  have e0 : ∀ X, wF (ixP fv) (wC h pl t p0 Q A) t (0, 0, .object "SkylightWash$Plan", false, X) false (.ref pl) = some (wAr h pl t Q A) := fun X => (wF_of (fs := [.ref p0, .int (A 0 0), .int (A 0 1), .int (A 0 2), .int (A 0 3), .ref (t + 1), .ref (t + 2), .ref (t + 3), .ref (t + 4), .ref (t + 5), .ref (t + 6), .ref (t + 7), .ref (t + 8), .ref (t + 9), .int (A 0 4)]) ((ov_in0 (cs := arc t p0 A) (by have := g.2.2; rw [wP_len]; exact this) (by show 0 < 10; decide)).trans rfl) (gA_le g) (by show _ < 15; decide) rfl (Or.inl rfl)).trans (congrArg some ((ov_set0 (cs := arc t p0 A) (by show 0 < 10; decide)).trans rfl))
  have ec : ∀ d A, xe (ixP fv) d 120 0 [some (.ref (pl + 9)), some (.ref (t + 4))] [] (wAr h pl t Q A) = some (.inl none, wAr h pl t Q (cpm A 4 3 (Q 9))) := fun d A => (m120 (iAp9 g) (iA4 g) (Nat.le_trans g.1 (Nat.le_add_right pl 9)) (oA4 g) (by have := g.2.1; omega)).trans (by rw [cpy9 g])
  have f1 : ∀ d A v, xe (ixP fv) d 119 0 [some (.ref (t + 1)), some (.int v), none] [] (wAr h pl t Q A) = some (.inl none, wAr h pl t Q (flm A 1 40 v)) := fun d A v => (m119 (iA1 g) (oA1 g)).trans (by rw [fA1 g])
  have f2 : ∀ d A v, xe (ixP fv) d 119 0 [some (.ref (t + 2)), some (.int v), none] [] (wAr h pl t Q A) = some (.inl none, wAr h pl t Q (flm A 2 40 v)) := fun d A v => (m119 (iA2 g) (oA2 g)).trans (by rw [fA2 g])
  have f3 : ∀ d A v, xe (ixP fv) d 119 0 [some (.ref (t + 3)), some (.int v), none] [] (wAr h pl t Q A) = some (.inl none, wAr h pl t Q (flm A 3 40 v)) := fun d A v => (m119 (iA3 g) (oA3 g)).trans (by rw [fA3 g])
  have f5 : ∀ d A v, xe (ixP fv) d 119 0 [some (.ref (t + 5)), some (.int v), none] [] (wAr h pl t Q A) = some (.inl none, wAr h pl t Q (flm A 5 3 v)) := fun d A v => (m119 (iA5 g) (oA5 g)).trans (by rw [fA5 g])
  have f6 : ∀ d A v, xe (ixP fv) d 119 0 [some (.ref (t + 6)), some (.int v), none] [] (wAr h pl t Q A) = some (.inl none, wAr h pl t Q (flm A 6 3 v)) := fun d A v => (m119 (iA6 g) (oA6 g)).trans (by rw [fA6 g])
  have f7 : ∀ d A v, xe (ixP fv) d 119 0 [some (.ref (t + 7)), some (.int v), none] [] (wAr h pl t Q A) = some (.inl none, wAr h pl t Q (flm A 7 3 v)) := fun d A v => (m119 (iA7 g) (oA7 g)).trans (by rw [fA7 g])
  have f8 : ∀ d A v, xe (ixP fv) d 119 0 [some (.ref (t + 8)), some (.int v), none] [] (wAr h pl t Q A) = some (.inl none, wAr h pl t Q (flm A 8 3 v)) := fun d A v => (m119 (iA8 g) (oA8 g)).trans (by rw [fA8 g])
  simp only [q2_0, q2_1, q2_2, q2_5, q2_6, q2_7, q2_10, q2_11, q2_14, q2_15, q2_18, q2_19, q2_22, q2_23, q2_26, q2_27, q2_30, q2_31, q2_34, q2_35, q2_38, q2_39, q2_42, q2_45, q2_46, q2_49, q2_51, q2_54, q2_55, q2_58, q2_59, q2_62, q2_63, q2_66, q2_67, q2_70, q2_71, q2_74, q2_75, q2_78 (st := []), i10, eq_self, ft0, ft1, b01_ft, k1r, k1i, xG_some, xH_some, xC_v, xC_n, if_true, if_false, not_true_eq_false, not_false_eq_true, ix_st, ix_st2, List.getElem?_cons_succ, List.getElem?_cons_zero, List.set_cons_succ, List.set_cons_zero, Value.category, List.map_cons, List.map_nil, List.sum_cons, List.sum_nil, Nat.reduceAdd, Nat.reduceLeDiff, Nat.reduceEqDiff, Nat.zero_le, reduceCtorEq, ↓reduceIte, eq_self, Bool.not_eq_true, Bool.true_eq_false, Bool.false_eq_true, not_true, not_false_eq_true, e0, ec, f1, f2, f3, f5, f6, f7, f8, wAra3 g, rAp12 g, rAa5 g, rAa6 g, rAa7 g, rAa8 g, rAa9 g, rAa10 g, rAa11 g, rAa12 g]
  rfl
theorem set_id {c : ix_C} (e : h[o]? = some c) : h.set o c = h := by
  obtain ⟨h1, h2⟩ := List.getElem?_eq_some_iff.mp e
  rw [← h2, List.set_getElem_self]
/-- the class learns the list -/
theorem m93 (hb : 98 ≤ b) (h1 : b < tp) (h2 : tp + 2 ≤ r) (h3 : r + 10 ≤ pl) (h4 : pl + 22 ≤ t) (h5 : t + 10 ≤ G.length) (cb : G[b]? = some (.inr (6, [.ref tp, .ref r, .ref t, .ref t2, .int (-1)]))) (ct : G[tp]? = some (.inr (4, [.ref (tp + 1), .int (nI (TXT ce).length)]))) (ctb : G[tp + 1]? = some (ia 2000 T)) (hT : ∀ i, i < (TXT ce).length → T i = nI (byI (TXT ce) i)) (hl : (TXT ce).length ≤ 1900) (cr : ∀ k, k < 10 → G[r + k]? = (rdc r pl N L)[k]?) (hL : L 1 = KW) (cp : ∀ k, k < 22 → G[pl + k]? = (plc pl Q)[k]?) (ca : ∀ k, k < 10 → G[t + k]? = (arc t p0 A)[k]?) : ∃ G' L' Q0 s Q', PI ce L' (n1 ce) (n3 ce) (n4 ce) (n5 ce) Q0 L' ∧ PO ce Q0 (n6 ce) s Q' ∧ xe (ixP fv) (d + 23) 93 0 [some (.ref b), none] [] G = some (.inl (some (.int 0)), G') ∧ G'.length = G.length ∧ ix_sz G' = ix_sz G ∧ (∀ k, k < 22 → G'[pl + k]? = (plc pl Q')[k]?) ∧ (∀ k, k < 10 → G'[t + k]? = (arc t pl (bgL Q' A))[k]?) ∧ G'[tp]? = some (.inr (4, [.ref (tp + 1), .int 0])) ∧ ∀ o, o ≠ tp → (o < r ∨ r + 10 ≤ o) → (o < pl ∨ pl + 22 ≤ o) → (o < t ∨ t + 10 ≤ o) → G'[o]? = G[o]? := by
  have g : gR G r pl := ⟨by omega, h3, by omega⟩
  have eP : wP G pl Q = G := ov_self (cs := plc pl Q) cp
  have eG : wR G r pl N L Q = G := by
    unfold wR
    rw [eP]
    exact ov_self (cs := rdc r pl N L) cr
  obtain ⟨N', L', Q0, s, Q', p1, p2, n2', n3', e44⟩ := m44 (fv := fv) (d := d) (N := N) (Q := Q) g ⟨by omega, ct, ctb, hT, hl⟩ h2 hL
  rw [eG] at e44
  have e45 := m45 (fv := fv) (d := d + 21) (L := L') (Q := Q') g n2' n3'
  -- the heap once the list is read
  have l1 : (wR G r pl N' L' Q').length = G.length := wR_len
  have zP : ix_sz (wP G pl Q') = ix_sz G := sz_ov (cs := plc pl Q) (by show pl + 22 ≤ _; omega) cp rfl rfl
  have z1 : ix_sz (wR G r pl N' L' Q') = ix_sz G := by
    have : ix_sz (wR G r pl N' L' Q') = ix_sz (wP G pl Q') := sz_ov (cs := rdc r pl N L) (by rw [wP_len]; show r + 10 ≤ _; omega) (fun k hk => by
      have hk : k < 10 := hk
      exact (ov_lo (by omega)).trans (cr k hk)) rfl rfl
    rw [this, zP]
  have k1 : ∀ o, (o < r ∨ r + 10 ≤ o) → (o < pl ∨ pl + 22 ≤ o) → (wR G r pl N' L' Q')[o]? = G[o]? := fun o c1 c2 => by
    have a1 : (wR G r pl N' L' Q')[o]? = (wP G pl Q')[o]? := by
      rcases c1 with c1 | c1
      · exact ov_lo c1
      · exact ov_hi (cs := rdc r pl N' L') c1
    have a2 : (wP G pl Q')[o]? = G[o]? := by
      rcases c2 with c2 | c2
      · exact ov_lo c2
      · exact ov_hi (cs := plc pl Q') c2
    exact a1.trans a2
  have kp : ∀ k, k < 22 → (wR G r pl N' L' Q')[pl + k]? = (plc pl Q')[k]? := fun k hk => (ov_hi (cs := rdc r pl N' L') (by show r + 10 ≤ _; omega)).trans (ov_in (cs := plc pl Q') (by show pl + 22 ≤ _; omega) hk)
  have kr := wR_c0 (N := N') (L := L') (Q := Q') g
  generalize wR G r pl N' L' Q' = G1 at e44 e45 l1 z1 k1 kp kr
  have b1 : G1[b]? = some (.inr (6, [.ref tp, .ref r, .ref t, .ref t2, .int (-1)])) := (k1 b (by omega) (by omega)).trans cb
  have t1 : G1[tp]? = some (.inr (4, [.ref (tp + 1), .int (nI (TXT ce).length)])) := (k1 tp (by omega) (by omega)).trans ct
  have wl : ∀ X, wF (ixP fv) G1 b (6, 4, .int, false, X) false (.int (-1)) = some G1 := fun X => (wF_of b1 hb (by show _ < 5; decide) rfl (Or.inl rfl)).trans (congrArg some (set_id b1))
  obtain ⟨G2, hG2⟩ : ∃ G2, G2 = G1.set tp (.inr (4, [.ref (tp + 1), .int 0])) := ⟨_, rfl⟩
  have wt : ∀ X, wF (ixP fv) G1 tp (4, 1, .int, false, X) false (.int 0) = some G2 := fun X => (wF_of t1 (by omega) (by show _ < 2; decide) rfl (Or.inl rfl)).trans (congrArg some hG2.symm)
  have k2 : ∀ o, o ≠ tp → G2[o]? = G1[o]? := fun o c => by rw [hG2]; exact List.getElem?_set_ne (fun e => c e.symm)
  have l2 : G2.length = G.length := by rw [hG2, List.length_set, l1]
  have z2 : ix_sz G2 = ix_sz G := by rw [hG2]; exact (ix_sz_set G1 tp _ (.inr (4, [.ref (tp + 1), .int 0])) t1 rfl).trans z1
  have t2' : G2[tp]? = some (.inr (4, [.ref (tp + 1), .int 0])) := by rw [hG2]; exact List.getElem?_set_self (by omega)
  have r2 := (k2 r (by omega)).trans kr
  have e46 := m46 (fv := fv) (d := d + 22) (p0 := p0) r2 (by omega)
  obtain ⟨G3, hG3⟩ : ∃ G3, G3 = G2.set r (.inr (3, [.ref (r + 1), .ref (r + 6), .ref (r + 7), .ref (r + 8), .ref (r + 9), .ref p0, .int (N' 0 0), .int (N' 0 1), .int (N' 0 2), .int (N' 0 3), .int (N' 0 4)])) := ⟨_, rfl⟩
  rw [← hG3] at e46
  have k3 : ∀ o, o ≠ r → G3[o]? = G2[o]? := fun o c => by rw [hG3]; exact List.getElem?_set_ne (fun e => c e.symm)
  have l3 : G3.length = G.length := by rw [hG3, List.length_set, l2]
  have z3 : ix_sz G3 = ix_sz G := by rw [hG3]; exact (ix_sz_set G2 r _ (.inr (3, [.ref (r + 1), .ref (r + 6), .ref (r + 7), .ref (r + 8), .ref (r + 9), .ref p0, .int (N' 0 0), .int (N' 0 1), .int (N' 0 2), .int (N' 0 3), .int (N' 0 4)])) r2 rfl).trans z2
  have kp3 : ∀ k, k < 22 → G3[pl + k]? = (plc pl Q')[k]? := fun k hk => (k3 _ (by omega)).trans ((k2 _ (by omega)).trans (kp k hk))
  have ka3 : ∀ k, k < 10 → G3[t + k]? = (arc t p0 A)[k]? := fun k hk => (k3 _ (by omega)).trans ((k2 _ (by omega)).trans ((k1 _ (by omega) (by omega)).trans (ca k hk)))
  have gA3 : gA G3 pl t := ⟨by omega, h4, by omega⟩
  have eC : wC G3 pl t p0 Q' A = G3 := by
    unfold wC wP
    rw [ov_self (cs := plc pl Q') kp3]
    exact ov_self (cs := arc t p0 A) ka3
  have e2 := m2 (fv := fv) (d := d + 21) (p0 := p0) (Q := Q') (A := A) gA3
  rw [eC] at e2
  have eP3 : wP G3 pl Q' = G3 := ov_self (cs := plc pl Q') kp3
  have e4 : wAr G3 pl t Q' (bgL Q' A) = ov G3 t (arc t pl (bgL Q' A)) := by
    unfold wAr
    rw [eP3]
  have isr1 : ∀ H : ix_H, (∃ fs, H[r]? = some (.inr (3, fs))) → ix_is (ixP fv) H r "SkylightWash$Reader" = true := fun H ⟨fs, e⟩ => is_of e (by decide +kernel)
  have iG := isr1 G ⟨_, cr 0 (by decide)⟩
  have iG1 := isr1 G1 ⟨_, kr⟩
  have iG2 := isr1 G2 ⟨_, r2⟩
  have iA3 : ix_is (ixP fv) G3 t "SkylightWash$Arcade" = true := is_of (ka3 0 (by decide)) (by decide +kernel)
  have b2 := (k2 b (by omega)).trans b1
  have f0 : ∀ ty fin X, rF (ixP fv) G b (6, 1, ty, fin, X) = some (.ref r) := fun ty fin X => rF_of cb hb rfl
  have f0' : ∀ ty fin X, rF (ixP fv) G b (6, 0, ty, fin, X) = some (.ref tp) := fun ty fin X => rF_of cb hb rfl
  have f1 : ∀ ty fin X, rF (ixP fv) G1 b (6, 1, ty, fin, X) = some (.ref r) := fun ty fin X => rF_of b1 hb rfl
  have f1' : ∀ ty fin X, rF (ixP fv) G1 b (6, 0, ty, fin, X) = some (.ref tp) := fun ty fin X => rF_of b1 hb rfl
  have f2 : ∀ ty fin X, rF (ixP fv) G2 b (6, 1, ty, fin, X) = some (.ref r) := fun ty fin X => rF_of b2 hb rfl
  have f2' : ∀ ty fin X, rF (ixP fv) G2 b (6, 2, ty, fin, X) = some (.ref t) := fun ty fin X => rF_of b2 hb rfl
  have f2'' : ∀ ty fin X, rF (ixP fv) G2 t (0, 0, ty, fin, X) = some (.ref p0) := fun ty fin X => rF_of (((k3 t (by omega)).symm.trans (ka3 0 (by decide)))) (by omega) rfl
  refine ⟨ov G3 t (arc t pl (bgL Q' A)), L', Q0, s, Q', p1, p2, ?_, by rw [ov_len, l3], ?_, fun k hk => (ov_lo (by omega)).trans (kp3 k hk), fun k hk => ov_in (cs := arc t pl (bgL Q' A)) (by show t + 10 ≤ _; omega) hk, (ov_lo (by omega)).trans ((k3 tp (by omega)).trans t2'), fun o c1 c2 c3 c4 => ?_⟩
  · rw [e4] at e2
    have e44' : xe (ixP fv) (d + 22) 44 0 [some (.ref r), some (.ref tp), none] [] G = some (.inl (some (.int 0)), G1) := e44
    simp only [q93_0, q93_1, q93_4, q93_5, q93_8, q93_11, q93_12, q93_13, q93_14, q93_17, q93_20, q93_23, q93_24, q93_27, q93_28, q93_31, q93_32, q93_35, q93_36, q93_39, q93_40, q93_43, q93_44, q93_47, q93_50, q93_53, q93_56, q93_57 (st := []), i10, eq_self, ft0, ft1, b01_ft, k1r, k1i, xG_some, xH_some, xC_v, xC_n, if_true, if_false, not_true_eq_false, not_false_eq_true, ix_st, ix_st2, List.getElem?_cons_succ, List.getElem?_cons_zero, List.set_cons_succ, List.set_cons_zero, Value.category, List.map_cons, List.map_nil, List.sum_cons, List.sum_nil, Nat.reduceAdd, Nat.reduceLeDiff, Nat.reduceEqDiff, Nat.zero_le, reduceCtorEq, ↓reduceIte, eq_self, Bool.not_eq_true, Bool.true_eq_false, Bool.false_eq_true, not_true, not_false_eq_true, f0, f0', iG, e44', f1, f1', iG1, e45, wl, wt, f2, f2', f2'', iG2, e46, iA3, e2]
  · exact (sz_ov (cs := arc t p0 A) (cs' := arc t pl (bgL Q' A)) (by show t + 10 ≤ _; omega) ka3 rfl rfl).trans z3
  · have a1 : (ov G3 t (arc t pl (bgL Q' A)))[o]? = G3[o]? := by
      rcases c4 with c4 | c4
      · exact ov_lo c4
      · exact ov_hi (cs := arc t pl (bgL Q' A)) c4
    exact a1.trans ((k3 o (by omega)).trans ((k2 o c1).trans (k1 o c2 c3)))
end TCH
