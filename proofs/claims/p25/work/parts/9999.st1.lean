/-! THE START: Sim made, its tables set (written by gen9999.py). -/
section ST1
variable {fv : Value} {d : Nat} {h h' : ix_H} {o v v' s q w k m t r N : Nat} {xs : Nat → Int32} {l l' : List Int32} {X X' : Nat → Nat} {D D' : Nat → Nat → Nat} {n c : Nat → Nat} {M : Mm}
theorem OA_0 {E : Nat → Nat} : OA m 0 E = (.inl (5, m, .inr (.inr (.inr (.inr (fun _ => none))))) : ix_C) := by
  unfold OA
  congr 2
/-- a table's outer row set -/
theorem LB_fld (g : LB N xs h o v l s X D n c M) (h1 : 1 ≤ t) (h6 : t ≤ 6) (hm : m ≤ 50) : wF (ixP fv) (h ++ [(.inl (5, m, .inr (.inr (.inr (.inr (fun _ => none))))) : ix_C)]) s (7, t + 3, (.array (.array .int)), false, none) false (.ref h.length) = some ((h ++ [(.inl (5, m, .inr (.inr (.inr (.inr (fun _ => none))))) : ix_C)]).set s (obS (upT X t h.length) M)) ∧ LB N xs ((h ++ [(.inl (5, m, .inr (.inr (.inr (.inr (fun _ => none))))) : ix_C)]).set s (obS (upT X t h.length) M)) o v l s (upT X t h.length) D (upT n t m) (upT c t 0) M := by
  have hs := lt_of g.2.2.2.1.2
  have g0 := LB_push g (x := (.inl (5, m, .inr (.inr (.inr (.inr (fun _ => none))))) : ix_C))
  obtain ⟨⟨cap, a, mb, e1, e2, e3⟩, g2, g3, ⟨g4, g5⟩, g6, g7, g8, g9⟩ := g0
  have hset : ([.int (M 0 0 0), .int (M 0 0 1), .int (M 0 0 2), .int (M 0 0 3), .ref (X 1), .ref (X 2), .ref (X 3), .ref (X 4), .ref (X 5), .ref (X 6)] : List Value).set (t + 3) (.ref h.length) = [.int (M 0 0 0), .int (M 0 0 1), .int (M 0 0 2), .int (M 0 0 3), .ref (upT X t h.length 1), .ref (upT X t h.length 2), .ref (upT X t h.length 3), .ref (upT X t h.length 4), .ref (upT X t h.length 5), .ref (upT X t h.length 6)] := by
    rcases t with _ | _ | _ | _ | _ | _ | _ | t
    · omega
    all_goals first | rfl | omega
  have hw := wF_of (fv := fv) (ini := false) (v := .ref h.length) (X := none) (ty := (.array (.array .int))) (f := t + 3) (fin := false) g5 g4 (by show t + 3 < 10; omega) rfl (Or.inl rfl)
  rw [hset] at hw
  have ne : ∀ q (y : ix_C), (h ++ [(.inl (5, m, .inr (.inr (.inr (.inr (fun _ => none))))) : ix_C)] : ix_H)[q]? = some y → (∀ fs, y ≠ .inr (7, fs)) → s ≠ q := by
    intro q y e nn q'
    rw [← q', g5] at e
    exact nn _ (Option.some.inj e).symm
  have kp : ∀ q (y : ix_C), (h ++ [(.inl (5, m, .inr (.inr (.inr (.inr (fun _ => none))))) : ix_C)] : ix_H)[q]? = some y → (∀ fs, y ≠ .inr (7, fs)) → ((h ++ [(.inl (5, m, .inr (.inr (.inr (.inr (fun _ => none))))) : ix_C)]).set s (obS (upT X t h.length) M))[q]? = some y := fun q y e nn => by
    rw [List.getElem?_set_ne (ne q y e nn), e]
  refine ⟨hw, ⟨cap, a, mb, kp o _ e1 (fun fs e => by cases e), kp v _ e2 (fun fs e => by cases e), e3⟩, fun q hq => ?_, by rw [List.length_set]; exact g3, ⟨g4, get_set g5⟩, fun t' i1 i6 => ?_, fun t' r' i1 i6 hr' => ?_, fun t' r' t'' r'' i1 i6 hr' j1 j6 hr'' e => ?_, fun t' t'' i1 i6 j1 j6 e => ?_⟩
  · rw [List.getElem?_set_ne (by omega)]
    exact g2 q hq
  · by_cases et : t' = t
    · subst et
      rw [upT_e, upT_e, upT_e, OA_0]
      exact ⟨g.2.2.1, hm, Nat.zero_le _, kp _ _ get_end (fun fs e => by cases e)⟩
    · obtain ⟨a1, a2, a3, a4⟩ := g6 t' i1 i6
      unfold upT
      rw [if_neg et, if_neg et, if_neg et]
      exact ⟨a1, a2, a3, kp _ _ a4 (fun fs e => by cases e)⟩
  · have hc : r' < c t' := by
      unfold upT at hr'
      by_cases et : t' = t
      · rw [if_pos et] at hr'
        omega
      · rw [if_neg et] at hr'
        exact hr'
    obtain ⟨a1, a2⟩ := g7 t' r' i1 i6 hc
    exact ⟨a1, kp _ _ a2 (fun fs e => by cases e)⟩
  · have sm : ∀ t' r', r' < upT c t 0 t' → r' < c t' := fun t' r' hr' => by
      unfold upT at hr'
      by_cases et : t' = t
      · rw [if_pos et] at hr'
        omega
      · rw [if_neg et] at hr'
        exact hr'
    exact g8 t' r' t'' r'' i1 i6 (sm _ _ hr') j1 j6 (sm _ _ hr'') e
  · have lo : ∀ t', 1 ≤ t' → t' ≤ 6 → X t' < h.length := fun t' i1 i6 => lt_of (g.2.2.2.2.1 t' i1 i6).2.2.2
    unfold upT at e
    by_cases et : t' = t
    · by_cases et2 : t'' = t
      · rw [et, et2]
      · rw [if_pos et, if_neg et2] at e
        have := lo t'' j1 j6
        omega
    · by_cases et2 : t'' = t
      · rw [if_neg et, if_pos et2] at e
        have := lo t' i1 i6
        omega
      · rw [if_neg et, if_neg et2] at e
        exact g9 t' t'' i1 i6 j1 j6 e
/-- a field of the object behind h -/
theorem wFm {c f : Nat} {ty : FieldType} {fin ini : Bool} {Y : Option String} {fs : List Value} {z : ix_H} {u : Value} (h98 : 98 ≤ h.length) (hf : f < fs.length) (ht : ix_ft ty u = true) (hfin : fin = false ∨ (ini = true ∧ Y = none)) : wF (ixP fv) (h ++ .inr (c, fs) :: z) h.length (c, f, ty, fin, Y) ini u = some (h ++ .inr (c, fs.set f u) :: z) := by
  have e : (h ++ .inr (c, fs) :: z : ix_H)[h.length]? = some (.inr (c, fs)) := by
    rw [List.getElem?_append_right (Nat.le_refl _), Nat.sub_self]
    rfl
  rw [wF_of e h98 hf ht hfin, List.set_append_right _ _ (Nat.le_refl _), Nat.sub_self]
  rfl
theorem apm {x : ix_C} {z z' : ix_H} : (h ++ x :: z) ++ z' = h ++ x :: (z ++ z') := by
  rw [List.append_assoc, List.cons_append]
theorem lnm {x : ix_C} {z : ix_H} : (h ++ x :: z).length = h.length + (z.length + 1) := by
  rw [List.length_append, List.length_cons]
/-- the fresh Sim -/
theorem m121 (h98 : 98 ≤ h.length) : xe (ixP fv) d 121 0 [some (.ref h.length)] [] (h ++ [.inr (7, [.int 0, .int 0, .int 0, .int 0, .null, .null, .null, .null, .null, .null])]) = some (.inl none, h ++ [.inr (7, [.int 0, .int 0, .int 0, .int (-1), .ref (h.length + 1), .ref (h.length + 2), .ref (h.length + 3), .ref (h.length + 4), .ref (h.length + 5), .ref (h.length + 6)]), (.inl (5, 0, .inr (.inr (.inr (.inr (fun _ => none))))) : ix_C), (.inl (5, 0, .inr (.inr (.inr (.inr (fun _ => none))))) : ix_C), (.inl (5, 0, .inr (.inr (.inr (.inr (fun _ => none))))) : ix_C), (.inl (5, 0, .inr (.inr (.inr (.inr (fun _ => none))))) : ix_C), (.inl (5, 0, .inr (.inr (.inr (.inr (fun _ => none))))) : ix_C), (.inl (5, 0, .inr (.inr (.inr (.inr (fun _ => none))))) : ix_C)]) := by
  have b0 : ix_big 0 = true := bg (m := 0) (by decide)
  have k0 : (0 : Int32).toNatClampNeg = 0 := nI_clamp (n := 0) (by decide)
  have w3 : ∀ (a0 a1 a2 a3 a4 a5 a6 a7 a8 a9 : Value) (l : ix_H) (v : Int32), wF (ixP fv) (h ++ .inr (7, [a0, a1, a2, a3, a4, a5, a6, a7, a8, a9]) :: l) h.length (7, 3, .int, false, none) true (.int v) = some (h ++ .inr (7, [a0, a1, a2, .int v, a4, a5, a6, a7, a8, a9]) :: l) := fun a0 a1 a2 a3 a4 a5 a6 a7 a8 a9 l v => wFm h98 (by show 3 < 10; decide) rfl (Or.inl rfl)
  have w4 : ∀ (a0 a1 a2 a3 a4 a5 a6 a7 a8 a9 : Value) (l : ix_H) (v : Nat), wF (ixP fv) (h ++ .inr (7, [a0, a1, a2, a3, a4, a5, a6, a7, a8, a9]) :: l) h.length (7, 4, (.array (.array .int)), false, none) true (.ref v) = some (h ++ .inr (7, [a0, a1, a2, a3, .ref v, a5, a6, a7, a8, a9]) :: l) := fun a0 a1 a2 a3 a4 a5 a6 a7 a8 a9 l v => wFm h98 (by show 4 < 10; decide) rfl (Or.inl rfl)
  have w5 : ∀ (a0 a1 a2 a3 a4 a5 a6 a7 a8 a9 : Value) (l : ix_H) (v : Nat), wF (ixP fv) (h ++ .inr (7, [a0, a1, a2, a3, a4, a5, a6, a7, a8, a9]) :: l) h.length (7, 5, (.array (.array .int)), false, none) true (.ref v) = some (h ++ .inr (7, [a0, a1, a2, a3, a4, .ref v, a6, a7, a8, a9]) :: l) := fun a0 a1 a2 a3 a4 a5 a6 a7 a8 a9 l v => wFm h98 (by show 5 < 10; decide) rfl (Or.inl rfl)
  have w6 : ∀ (a0 a1 a2 a3 a4 a5 a6 a7 a8 a9 : Value) (l : ix_H) (v : Nat), wF (ixP fv) (h ++ .inr (7, [a0, a1, a2, a3, a4, a5, a6, a7, a8, a9]) :: l) h.length (7, 6, (.array (.array .int)), false, none) true (.ref v) = some (h ++ .inr (7, [a0, a1, a2, a3, a4, a5, .ref v, a7, a8, a9]) :: l) := fun a0 a1 a2 a3 a4 a5 a6 a7 a8 a9 l v => wFm h98 (by show 6 < 10; decide) rfl (Or.inl rfl)
  have w7 : ∀ (a0 a1 a2 a3 a4 a5 a6 a7 a8 a9 : Value) (l : ix_H) (v : Nat), wF (ixP fv) (h ++ .inr (7, [a0, a1, a2, a3, a4, a5, a6, a7, a8, a9]) :: l) h.length (7, 7, (.array (.array .int)), false, none) true (.ref v) = some (h ++ .inr (7, [a0, a1, a2, a3, a4, a5, a6, .ref v, a8, a9]) :: l) := fun a0 a1 a2 a3 a4 a5 a6 a7 a8 a9 l v => wFm h98 (by show 7 < 10; decide) rfl (Or.inl rfl)
  have w8 : ∀ (a0 a1 a2 a3 a4 a5 a6 a7 a8 a9 : Value) (l : ix_H) (v : Nat), wF (ixP fv) (h ++ .inr (7, [a0, a1, a2, a3, a4, a5, a6, a7, a8, a9]) :: l) h.length (7, 8, (.array (.array .int)), false, none) true (.ref v) = some (h ++ .inr (7, [a0, a1, a2, a3, a4, a5, a6, a7, .ref v, a9]) :: l) := fun a0 a1 a2 a3 a4 a5 a6 a7 a8 a9 l v => wFm h98 (by show 8 < 10; decide) rfl (Or.inl rfl)
  have w9 : ∀ (a0 a1 a2 a3 a4 a5 a6 a7 a8 a9 : Value) (l : ix_H) (v : Nat), wF (ixP fv) (h ++ .inr (7, [a0, a1, a2, a3, a4, a5, a6, a7, a8, a9]) :: l) h.length (7, 9, (.array (.array .int)), false, none) true (.ref v) = some (h ++ .inr (7, [a0, a1, a2, a3, a4, a5, a6, a7, a8, .ref v]) :: l) := fun a0 a1 a2 a3 a4 a5 a6 a7 a8 a9 l v => wFm h98 (by show 9 < 10; decide) rfl (Or.inl rfl)
  have c8 : (0 : Nat) ≤ 8 := by decide
  simp only [q121_0, q121_4, q121_5, q121_6, q121_9, q121_10, q121_14, q121_17, q121_18, q121_22, q121_25, q121_26, q121_30, q121_33, q121_34, q121_38, q121_41, q121_42, q121_46, q121_49, q121_50, q121_54, q121_57 (st := []), q121_1 (st := []) c8, q121_11 b0, q121_19 b0, q121_27 b0, q121_35 b0, q121_43 b0, q121_51 b0, i10, eq_self, ft0, ft1, b01_ft, k1r, k1i, xG_some, xH_some, xC_v, xC_n, if_true, if_false, not_true_eq_false, not_false_eq_true, ix_st, ix_st2, List.getElem?_cons_succ, List.getElem?_cons_zero, List.set_cons_succ, List.set_cons_zero, Value.category, List.map_cons, List.map_nil, List.sum_cons, List.sum_nil, Nat.reduceAdd, Nat.reduceLeDiff, Nat.reduceEqDiff, Nat.zero_le, reduceCtorEq, ↓reduceIte, eq_self, xit, k0, w3, w4, w5, w6, w7, w8, w9, apm, lnm, List.length_cons, List.length_nil, List.nil_append, List.cons_append, Nat.add_assoc, Nat.zero_add]
end ST1
