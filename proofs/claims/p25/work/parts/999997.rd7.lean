/-! THE WHOLE LIST as items (written by gen999997.py). -/
def i1 (ce : Nat → Int32) (k : Nat) : List (List Int32 × Bool) := itB k (pB ce k) (tB ce k)
def i3 (ce : Nat → Int32) (k : Nat) : List (List Int32 × Bool) := itC k (blw (sC ce k) (n2 ce)) (1 + blw (sC ce k >>> (2 &&& 31)) 30) (1 + blw (sC ce k >>> (4 &&& 31)) 12) (blw (sC ce k >>> (6 &&& 31)) 10)
def i4 (ce : Nat → Int32) (k : Nat) : List (List Int32 × Bool) := itK k (blw (sR ce k) (n2 ce)) (1 + blw (sR ce k >>> (3 &&& 31)) 9) (1 + blw (sR ce k >>> (5 &&& 31)) 60)
def i5 (ce : Nat → Int32) (k : Nat) : List (List Int32 × Bool) := itF k (1 + blw (sF ce k) 20) (1 + blw (sF ce k >>> (4 &&& 31)) 12)
/-- an order's sum, test, line -/
def i6s (ce : Nat → Int32) (k : Nat) : List (List Int32 × Bool) := smI (blw (sX ce k >>> (4 &&& 31)) 6) (blw (sX ce k >>> (5 &&& 31)) 130) (blw (sY ce k >>> (5 &&& 31)) (n2 ce + 2)) (blw (sX ce k >>> (3 &&& 31)) (n4 ce)) (blw (sY ce k >>> (2 &&& 31)) (n5 ce))
def i6t (ce : Nat → Int32) (k : Nat) : List (List Int32 × Bool) := teI (a46 ce k) (blw (sY ce k >>> (3 &&& 31)) 90) (blw (sY ce k >>> (5 &&& 31)) (n2 ce + 2)) (blw (sX ce k >>> (6 &&& 31)) (n1 ce)) (blw (sX ce k >>> (3 &&& 31)) (n4 ce)) (blw (sY ce k >>> (2 &&& 31)) (n5 ce))
def i6 (ce : Nat → Int32) (k : Nat) : List (List Int32 × Bool) := if sc6 ce k = true then itS (wh6 ce k) (i6t ce k) else itG (wh6 ce k) (i6s ce k) (i6t ce k)
def IT (ce : Nat → Int32) : List (List Int32 × Bool) := cat (i1 ce) 0 (n1 ce) ++ (cat (i3 ce) 0 (n3 ce) ++ (cat (i4 ce) 0 (n4 ce) ++ (cat (i5 ce) 0 (n5 ce) ++ cat (i6 ce) 0 (n6 ce))))
/-- ends with a token -/
def lstK (T : List (List Int32 × Bool)) : Prop := ∀ t, T.getLast? = some t → t.2 = true
section RD7
variable {ce : Nat → Int32} {y : Int32} {k m r N : Nat} {xs : Nat → Int32} {l : List Int32} {S T : List (List Int32 × Bool)} {g : Nat → List (List Int32 × Bool)}
theorem itr_cat {u : Nat → List Int32} : ∀ (r k : Nat) (l : List Int32), itr (fun k l => l ++ u k) k r l = l ++ cat u k r
  | 0, k, l => (List.append_nil l).symm
  | r + 1, k, l => by
    show itr (fun k l => l ++ u k) (k + 1) r (l ++ u k) = l ++ (u k ++ cat u (k + 1) r)
    rw [itr_cat r (k + 1), List.append_assoc]
theorem flt_cat : ∀ (r k : Nat), flt (cat g k r) = cat (fun k => flt (g k)) k r
  | 0, k => rfl
  | r + 1, k => by
    show flt (g k ++ cat g (k + 1) r) = flt (g k) ++ cat (fun k => flt (g k)) (k + 1) r
    rw [flt_app, flt_cat r (k + 1)]
theorem toks_cat : ∀ (r k : Nat), toks (cat g k r) = cat (fun k => toks (g k)) k r
  | 0, k => rfl
  | r + 1, k => by
    show toks (g k ++ cat g (k + 1) r) = toks (g k) ++ cat (fun k => toks (g k)) (k + 1) r
    rw [toks_app, toks_cat r (k + 1)]
theorem okI_cat (h : ∀ k y, k < m → okI (g k) y) : ∀ (r k : Nat) (y : Int32), k + r = m → okI (cat g k r) y
  | 0, k, y, hk => trivial
  | r + 1, k, y, hk => okI_app _ (h k _ (by omega)) (okI_cat h r (k + 1) y (by omega))
theorem len_cat {α : Type} {u : Nat → List α} {c : Nat} (h : ∀ k, (u k).length ≤ c) : ∀ (r k : Nat), (cat u k r).length ≤ c * r
  | 0, k => Nat.zero_le _
  | r + 1, k => by
    show (u k ++ cat u (k + 1) r).length ≤ _
    rw [List.length_append]
    have h1 := h k
    have h2 := len_cat h r (k + 1)
    rw [Nat.mul_add]
    omega
theorem lst_app (h : lstK T) (h2 : T = [] → lstK S) : lstK (S ++ T) := by
  intro t ht
  rw [List.getLast?_append] at ht
  rcases hT : T.getLast? with _ | z
  · have : T = [] := List.getLast?_eq_none_iff.mp hT
    rw [hT] at ht
    exact h2 this t ht
  · rw [hT] at ht
    have : z = t := Option.some.inj ht
    exact h t (by rw [hT, this])
theorem lst_59 : lstK (S ++ [([59], true)]) := by
  intro t ht
  rw [List.getLast?_concat] at ht
  rw [← Option.some.inj ht]
theorem lst_cat (h : ∀ k, lstK (g k)) : ∀ (r k : Nat), lstK (cat g k r)
  | 0, k => fun t ht => by cases ht
  | r + 1, k => lst_app (lst_cat h r (k + 1)) (fun _ => h k)
theorem tx1_eq : tx1 ce l k = l ++ flt (i1 ce k) := tx_B
theorem tx3_eq : tx3 ce l k = l ++ flt (i3 ce k) := tx_C
theorem tx4_eq : tx4 ce l k = l ++ flt (i4 ce k) := tx_K
theorem tx5_eq : tx5 ce l k = l ++ flt (i5 ce k) := tx_F
theorem tx6_eq : tx6 ce l k = l ++ flt (i6 ce k) := by
  have h8 := (so6_eq (ce := ce) (k := k)).2
  have h6 : blw (sX ce k >>> (4 &&& 31)) 6 < 6 := blw_lt (by decide)
  have eT : flt (i6t ce k) = teT (a46 ce k) (blw (sY ce k >>> (3 &&& 31)) 90) (blw (sY ce k >>> (5 &&& 31)) (n2 ce + 2)) (blw (sX ce k >>> (6 &&& 31)) (n1 ce)) (blw (sX ce k >>> (3 &&& 31)) (n4 ce)) (blw (sY ce k >>> (2 &&& 31)) (n5 ce)) := (tx_t h8).symm
  have eS : flt (i6s ce k) = smT (blw (sX ce k >>> (4 &&& 31)) 6) (blw (sX ce k >>> (5 &&& 31)) 130) (blw (sY ce k >>> (5 &&& 31)) (n2 ce + 2)) (blw (sX ce k >>> (3 &&& 31)) (n4 ce)) (blw (sY ce k >>> (2 &&& 31)) (n5 ce)) := (tx_s h6).symm
  unfold tx6 i6
  by_cases c : sc6 ce k = true
  · rw [if_pos c, if_pos c]
    unfold itS
    simp only [flt_app, eT, sv44, sv32, flt_ok, flt_no, flt_nil, List.append_assoc, List.cons_append, List.nil_append, List.append_nil]
  · rw [if_neg c, if_neg c]
    unfold itG
    simp only [flt_app, eT, eS, sv45, sv46, sv32, flt_ok, flt_no, flt_nil, List.append_assoc, List.cons_append, List.nil_append, List.append_nil]
theorem TXT_eq : TXT ce = flt (IT ce) := by
  unfold TXT IT
  have e6 : ∀ l, itr (fun k l => tx6 ce l k) 0 (n6 ce) l = l ++ flt (cat (i6 ce) 0 (n6 ce)) := fun l => by
    rw [flt_cat, ← itr_cat]
    exact itr_eq (m := 0 + n6 ce) (fun k a _ => tx6_eq) rfl
  have e5 : ∀ l, itr (fun k l => tx5 ce l k) 0 (n5 ce) l = l ++ flt (cat (i5 ce) 0 (n5 ce)) := fun l => by
    rw [flt_cat, ← itr_cat]
    exact itr_eq (m := 0 + n5 ce) (fun k a _ => tx5_eq) rfl
  have e4 : ∀ l, itr (fun k l => tx4 ce l k) 0 (n4 ce) l = l ++ flt (cat (i4 ce) 0 (n4 ce)) := fun l => by
    rw [flt_cat, ← itr_cat]
    exact itr_eq (m := 0 + n4 ce) (fun k a _ => tx4_eq) rfl
  have e3 : ∀ l, itr (fun k l => tx3 ce l k) 0 (n3 ce) l = l ++ flt (cat (i3 ce) 0 (n3 ce)) := fun l => by
    rw [flt_cat, ← itr_cat]
    exact itr_eq (m := 0 + n3 ce) (fun k a _ => tx3_eq) rfl
  have e1 : ∀ l, itr (fun k l => tx1 ce l k) 0 (n1 ce) l = l ++ flt (cat (i1 ce) 0 (n1 ce)) := fun l => by
    rw [flt_cat, ← itr_cat]
    exact itr_eq (m := 0 + n1 ce) (fun k a _ => tx1_eq) rfl
  rw [e6, e5, e4, e3, e1, flt_app, flt_app, flt_app, flt_app]
  simp only [List.append_assoc, List.nil_append]
theorem i6_b (k : Nat) : blw (sX ce k >>> (4 &&& 31)) 6 < 6 ∧ blw (sX ce k >>> (5 &&& 31)) 130 < 130 ∧ blw (sY ce k >>> (3 &&& 31)) 90 < 90 ∧ blw (sY ce k >>> (5 &&& 31)) (n2 ce + 2) < n2 ce + 2 ∧ blw (sX ce k >>> (6 &&& 31)) (n1 ce) < n1 ce ∧ blw (sX ce k >>> (3 &&& 31)) (n4 ce) < n4 ce ∧ blw (sY ce k >>> (2 &&& 31)) (n5 ce) < n5 ce := by
  have h1 := n1_b (ce := ce)
  have h4 := n4_b (ce := ce)
  have h5 := n5_b (ce := ce)
  exact ⟨blw_lt (by decide), blw_lt (by decide), blw_lt (by decide), blw_lt (by omega), blw_lt (by omega), blw_lt (by omega), blw_lt (by omega)⟩
theorem a46_sc (h : sc6 ce k = true) : a46 ce k < 8 := by
  unfold a46
  rw [if_pos h]
  split
  · decide
  · have := blw_lt (x := sY ce k) (m := 11) (by decide)
    omega
theorem fst_t' {a4 a5 a6 a7 a8 a9 : Nat} (h4 : a4 < 8) : fst1 (flt (teI a4 a5 a6 a7 a8 a9)) 59 = 32 := by

  by_cases c0 : a4 = 0
  · subst c0
    exact rfl
  by_cases c1 : a4 = 1
  · subst c1
    exact rfl
  by_cases c2 : a4 = 2
  · subst c2
    exact rfl
  by_cases c3 : a4 = 3
  · subst c3
    exact rfl
  by_cases c4 : a4 = 4
  · subst c4
    exact rfl
  by_cases c5 : a4 = 5
  · subst c5
    exact rfl
  by_cases c6 : a4 = 6
  · subst c6
    exact rfl
  by_cases c7 : a4 = 7
  · subst c7
    exact rfl
  exfalso
  omega
theorem ok_IT : okI (IT ce) y := by
  have h1 := n1_b (ce := ce)
  have h2 := n2_b (ce := ce)
  have h3 := n3_b (ce := ce)
  have h4 := n4_b (ce := ce)
  have h5 := n5_b (ce := ce)
  have h6 := n6_b (ce := ce)
  refine okI_app _ (okI_cat (m := n1 ce) (fun k y hk => ?_) _ _ _ (Nat.zero_add _)) (okI_app _ (okI_cat (m := n3 ce) (fun k y hk => ?_) _ _ _ (Nat.zero_add _)) (okI_app _ (okI_cat (m := n4 ce) (fun k y hk => ?_) _ _ _ (Nat.zero_add _)) (okI_app _ (okI_cat (m := n5 ce) (fun k y hk => ?_) _ _ _ (Nat.zero_add _)) (okI_cat (m := n6 ce) (fun k y hk => ?_) _ _ _ (Nat.zero_add _)))))
  · have := pB_b (ce := ce) (b := k)
    have := tB_b (ce := ce) (b := k)
    exact ok_B (by omega) (by omega) (by omega)
  · have := blw_lt (x := sC ce k) (m := n2 ce) (by omega)
    have := blw_lt (x := sC ce k >>> (2 &&& 31)) (m := 30) (by decide)
    have := blw_lt (x := sC ce k >>> (4 &&& 31)) (m := 12) (by decide)
    have := blw_lt (x := sC ce k >>> (6 &&& 31)) (m := 10) (by decide)
    exact ok_C (by omega) (by omega) (by omega) (by omega) (by omega)
  · have := blw_lt (x := sR ce k) (m := n2 ce) (by omega)
    have := blw_lt (x := sR ce k >>> (3 &&& 31)) (m := 9) (by decide)
    have := blw_lt (x := sR ce k >>> (5 &&& 31)) (m := 60) (by decide)
    exact ok_K (by omega) (by omega) (by omega) (by omega)
  · have := blw_lt (x := sF ce k) (m := 20) (by decide)
    have := blw_lt (x := sF ce k >>> (4 &&& 31)) (m := 12) (by decide)
    exact ok_F (by omega) (by omega) (by omega)
  · obtain ⟨j1, j2, j3, j4, j5, j6, j7⟩ := i6_b (ce := ce) k
    have h8 := (so6_eq (ce := ce) (k := k)).2
    have hw := wh6_b (ce := ce) (k := k)
    have hT : okI (i6t ce k) 59 := ok_t h8 (by decide) (by omega) (by omega) (by omega) (by omega) (by omega)
    unfold i6
    by_cases c : sc6 ce k = true
    · rw [if_pos c]
      exact ok_S (by omega) hT (fst_t' (a46_sc c))
    · rw [if_neg c]
      exact ok_G (by omega) (fun y hy => ok_s j1 hy (by omega) (by omega) (by omega) (by omega)) hT (fst_t h8)
theorem lst_B (k : Nat) : lstK (i1 ce k) := fun t ht => (Option.some.inj ht) ▸ rfl
theorem lst_F (k : Nat) : lstK (i5 ce k) := fun t ht => (Option.some.inj ht) ▸ rfl
theorem lst_6 (k : Nat) : lstK (i6 ce k) := by
  unfold i6
  split
  · unfold itS
    exact lst_app lst_59 (fun e => absurd (congrArg List.length e) (by rw [List.length_append]; exact Nat.succ_ne_zero _))
  · unfold itG
    refine lst_app (lst_app lst_59 (fun e => absurd (congrArg List.length e) (by rw [List.length_append]; exact Nat.succ_ne_zero _))) (fun e => absurd (congrArg List.length e) (by rw [List.length_append, List.length_append]; exact Nat.succ_ne_zero _))
theorem len_i5 : 0 < (cat (i5 ce) 0 (n5 ce)).length := by
  have h5 := n5_b (ce := ce)
  obtain ⟨r, hr⟩ : ∃ r, n5 ce = r + 1 := ⟨n5 ce - 1, by omega⟩
  rw [hr]
  show 0 < (i5 ce 0 ++ cat (i5 ce) 1 r).length
  rw [List.length_append]
  exact Nat.lt_of_lt_of_le (show 0 < (i5 ce 0).length from Nat.succ_pos _) (Nat.le_add_right _ _)
theorem lst_IT : lstK (IT ce) := by
  have hF : ¬ cat (i5 ce) 0 (n5 ce) = [] := fun e => by
    have := len_i5 (ce := ce)
    rw [e] at this
    exact absurd this (Nat.lt_irrefl _)
  refine lst_app (lst_app (lst_app (lst_app (lst_cat lst_6 _ _) (fun _ => lst_cat lst_F _ _)) (fun e => ?_)) (fun e => ?_)) (fun e => ?_)
  · exact absurd (List.append_eq_nil_iff.mp e).1 hF
  · exact absurd (List.append_eq_nil_iff.mp (List.append_eq_nil_iff.mp e).2).1 hF
  · exact absurd (List.append_eq_nil_iff.mp (List.append_eq_nil_iff.mp (List.append_eq_nil_iff.mp e).2).2).1 hF
theorem len_6 (k : Nat) : (toks (i6 ce k)).length ≤ 32 := by
  obtain ⟨j1, j2, j3, j4, j5, j6, j7⟩ := i6_b (ce := ce) k
  have h1 : (toks (i6s ce k)).length ≤ 11 := (le_s j1).1
  have h2 : (toks (i6t ce k)).length ≤ 17 := (le_t (so6_eq (ce := ce) (k := k)).2).1
  unfold i6
  split
  · unfold itS
    rw [toks_app, toks_app, List.length_append, List.length_append]
    show 2 + (_ + 1) ≤ 32
    omega
  · unfold itG
    rw [toks_app, toks_app, toks_app, List.length_append, List.length_append, List.length_append]
    show 3 + (_ + (_ + 1)) ≤ 32
    omega
theorem len_IT : (toks (IT ce)).length ≤ 400 := by
  have h1 := n1_b (ce := ce)
  have h3 := n3_b (ce := ce)
  have h4 := n4_b (ce := ce)
  have h5 := n5_b (ce := ce)
  have h6 := n6_b (ce := ce)
  have q1 := len_cat (u := fun k => toks (i1 ce k)) (c := 7) (fun k => Nat.le_refl 7) (n1 ce) 0
  have q3 := len_cat (u := fun k => toks (i3 ce k)) (c := 11) (fun k => Nat.le_refl 11) (n3 ce) 0
  have q4 := len_cat (u := fun k => toks (i4 ce k)) (c := 9) (fun k => Nat.le_refl 9) (n4 ce) 0
  have q5 := len_cat (u := fun k => toks (i5 ce k)) (c := 7) (fun k => Nat.le_refl 7) (n5 ce) 0
  have q6 := len_cat (u := fun k => toks (i6 ce k)) (c := 32) len_6 (n6 ce) 0
  unfold IT
  rw [toks_app, toks_app, toks_app, toks_app, List.length_append, List.length_append, List.length_append, List.length_append, toks_cat, toks_cat, toks_cat, toks_cat, toks_cat]
  omega
/-- the text is its tokens -/
theorem TXT_tk : asc (TXT ce) ∧ tkAt (TXT ce) KW 0 (led [] (IT ce)) ∧ (led [] (IT ce)).map (fun t => t.2) = toks (IT ce) ∧ (led [] (IT ce)).length ≤ 400 := by
  have ha : asc (TXT ce) := by
    rw [TXT_eq]
    exact okI_asc (y := 0) _ ok_IT
  have hm := led_toks (IT ce) []
  have hl := congrArg List.length hm
  rw [List.length_map] at hl
  refine ⟨ha, ?_, hm, by rw [hl]; exact len_IT⟩
  exact tk_all ha (IT ce) [] [] TXT_eq rfl ok_IT (fun _ => rfl) lst_IT
end RD7
