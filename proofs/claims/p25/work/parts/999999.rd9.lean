/-! THE LOOP over the orders (written by gen999999.py). -/
/-- an order as read -/
def RO1 (Q : Mem) (M : Mm) (j s : Nat) : Prop := ∃ a b c : Nat, Q 17 j = nI a ∧ Q 18 j = nI b ∧ Q 19 j = nI c ∧ Q 16 j = M 6 j 1 ∧ ((M 6 j 0 = 1 ∧ Q 15 j = 16 ∧ ¬ M 6 j 4 = -1) ∨ (M 6 j 0 = 0 ∧ Q 15 j = 14 ∧ b = a + (cSu (M 6 j)).length ∧ prg Q a (cSu (M 6 j)))) ∧ c = b + (cHo (M 6 j)).length ∧ c ≤ s ∧ prg Q b (cHo (M 6 j))
def PO (ce : Nat → Int32) (Q0 : Mem) (k s : Nat) (Q : Mem) : Prop := (∀ i, i ≠ 5 → i ≠ 6 → Q 0 i = Q0 0 i) ∧ (∀ b, 1 ≤ b → b ≤ 14 → Q b = Q0 b) ∧ Q 0 5 = nI k ∧ Q 0 6 = nI s ∧ s ≤ 23 * k ∧ ∀ j, j < k → RO1 Q (WM ce) j s
section RD9
variable {fv : Value} {d : Nat} {h : ix_H} {r pl tp q k i m s a2 a3 a4 a5 a6 a7 a8 a9 : Nat} {N Q Q0 : Mem} {L L0 : Jem} {ce : Nat → Int32} {T : List (List Int32)} {own : Nat → Int32} {u w : Int32} {S1 S2 : List (Int32 × Int32)}
theorem m45_eq : ∀ a, a < 130 → nI a - nI a / 45 * 45 = nI (a % 45) := by decide +kernel
theorem cSu_a (h2 : own 2 = nI a2) (h3 : own 3 = nI a3) (h6 : own 6 = nI a6) (h8 : own 8 = nI a8) (h9 : own 9 = nI a9) (ha2 : a2 < 6) (ha3 : a3 < 130) : cSu own = cS a2 a3 a6 a8 a9 := by
  unfold cSu
  rw [h2, h3, h6, h8, h9]
  by_cases c0 : a2 = 0
  · subst c0
    rw [if_pos (show nI 0 = 0 by decide)]
    exact congrArg (fun z => [((48 : Int32), z)]) (m45_eq _ ha3)
  by_cases c1 : a2 = 1
  · subst c1
    rw [if_neg (show ¬ nI 1 = 0 by decide), if_pos (show nI 1 = 1 by decide)]
    rfl
  by_cases c2 : a2 = 2
  · subst c2
    rw [if_neg (show ¬ nI 2 = 0 by decide), if_neg (show ¬ nI 2 = 1 by decide), if_pos (show nI 2 = 2 by decide)]
    rfl
  by_cases c3 : a2 = 3
  · subst c3
    rw [if_neg (show ¬ nI 3 = 0 by decide), if_neg (show ¬ nI 3 = 1 by decide), if_neg (show ¬ nI 3 = 2 by decide), if_pos (show nI 3 = 3 by decide)]
    rfl
  by_cases c4 : a2 = 4
  · subst c4
    rw [if_neg (show ¬ nI 4 = 0 by decide), if_neg (show ¬ nI 4 = 1 by decide), if_neg (show ¬ nI 4 = 2 by decide), if_neg (show ¬ nI 4 = 3 by decide), if_pos (show nI 4 = 4 by decide)]
    rfl
  by_cases c5 : a2 = 5
  · subst c5
    rw [if_neg (show ¬ nI 5 = 0 by decide), if_neg (show ¬ nI 5 = 1 by decide), if_neg (show ¬ nI 5 = 2 by decide), if_neg (show ¬ nI 5 = 3 by decide), if_neg (show ¬ nI 5 = 4 by decide)]
    rfl
  exfalso
  omega
theorem cHo_a (h4 : own 4 = if a4 = 8 then -1 else nI a4) (h5 : own 5 = nI a5) (h6 : own 6 = nI a6) (h7 : own 7 = nI a7) (h8 : own 8 = nI a8) (h9 : own 9 = nI a9) (ha4 : a4 ≤ 8) : cHo own = cH a4 a5 a6 a7 a8 a9 := by
  unfold cHo
  rw [h4, h5, h6, h7, h8, h9]
  by_cases c8 : a4 = 8
  · subst c8
    rw [if_pos (show (if 8 = 8 then (-1 : Int32) else nI 8) = -1 by decide)]
    rfl
  rw [if_neg c8]
  by_cases c0 : a4 = 0
  · subst c0
    rw [if_neg (show ¬ nI 0 = -1 by decide), if_pos (show nI 0 = 0 by decide)]
    rfl
  by_cases c1 : a4 = 1
  · subst c1
    rw [if_neg (show ¬ nI 1 = -1 by decide), if_neg (show ¬ nI 1 = 0 by decide), if_pos (show nI 1 = 1 by decide)]
    rfl
  by_cases c2 : a4 = 2
  · subst c2
    rw [if_neg (show ¬ nI 2 = -1 by decide), if_neg (show ¬ nI 2 = 0 by decide), if_neg (show ¬ nI 2 = 1 by decide), if_pos (show nI 2 = 2 by decide)]
    rfl
  by_cases c3 : a4 = 3
  · subst c3
    rw [if_neg (show ¬ nI 3 = -1 by decide), if_neg (show ¬ nI 3 = 0 by decide), if_neg (show ¬ nI 3 = 1 by decide), if_neg (show ¬ nI 3 = 2 by decide), if_pos (show nI 3 = 3 by decide)]
    rfl
  by_cases c4 : a4 = 4
  · subst c4
    rw [if_neg (show ¬ nI 4 = -1 by decide), if_neg (show ¬ nI 4 = 0 by decide), if_neg (show ¬ nI 4 = 1 by decide), if_neg (show ¬ nI 4 = 2 by decide), if_neg (show ¬ nI 4 = 3 by decide), if_pos (show nI 4 = 4 by decide)]
    rfl
  by_cases c5 : a4 = 5
  · subst c5
    rw [if_neg (show ¬ nI 5 = -1 by decide), if_neg (show ¬ nI 5 = 0 by decide), if_neg (show ¬ nI 5 = 1 by decide), if_neg (show ¬ nI 5 = 2 by decide), if_neg (show ¬ nI 5 = 3 by decide), if_neg (show ¬ nI 5 = 4 by decide), if_pos (show nI 5 = 5 by decide)]
    rfl
  by_cases c6 : a4 = 6
  · subst c6
    rw [if_neg (show ¬ nI 6 = -1 by decide), if_neg (show ¬ nI 6 = 0 by decide), if_neg (show ¬ nI 6 = 1 by decide), if_neg (show ¬ nI 6 = 2 by decide), if_neg (show ¬ nI 6 = 3 by decide), if_neg (show ¬ nI 6 = 4 by decide), if_neg (show ¬ nI 6 = 5 by decide), if_pos (show nI 6 = 6 by decide)]
    rfl
  by_cases c7 : a4 = 7
  · subst c7
    rw [if_neg (show ¬ nI 7 = -1 by decide), if_neg (show ¬ nI 7 = 0 by decide), if_neg (show ¬ nI 7 = 1 by decide), if_neg (show ¬ nI 7 = 2 by decide), if_neg (show ¬ nI 7 = 3 by decide), if_neg (show ¬ nI 7 = 4 by decide), if_neg (show ¬ nI 7 = 5 by decide), if_neg (show ¬ nI 7 = 6 by decide)]
    rfl
  exfalso
  omega
theorem PO_x (p : PO ce Q0 k s Q) (hk : k < 7) (hl : S1.length + S2.length ≤ 23) (hw : w = WM ce 6 k 1) (hx : (WM ce 6 k 0 = 1 ∧ u = 16 ∧ ¬ WM ce 6 k 4 = -1 ∧ S1 = []) ∨ (WM ce 6 k 0 = 0 ∧ u = 14 ∧ S1 = cSu (WM ce 6 k))) (h2 : S2 = cHo (WM ce 6 k)) : PO ce Q0 (k + 1) (s + S1.length + S2.length) (ap1 (stp Q (S1 ++ S2)) u w (nI s) (nI (s + S1.length))) := by
  obtain ⟨p1, p2, p3, p4, p5, p6⟩ := p
  have hll : (S1 ++ S2).length = S1.length + S2.length := List.length_append
  obtain ⟨f1, f2, f3, f4⟩ := stp_x (S1 ++ S2) Q s p4 (by omega)
  have f0 : ∀ i, i ≠ 6 → stp Q (S1 ++ S2) 0 i = Q 0 i := fun i hi => stp_row hi (S1 ++ S2) Q
  rw [hll, ← Nat.add_assoc] at f3
  generalize stp Q (S1 ++ S2) = P at f1 f2 f3 f4 f0
  have e : ∀ b j, ap1 P u w (nI s) (nI (s + S1.length)) b j = if b = 0 ∧ j = 5 then nI (k + 1) else if b = 19 ∧ j = k then nI (s + S1.length + S2.length) else if b = 18 ∧ j = k then nI (s + S1.length) else if b = 17 ∧ j = k then nI s else if b = 16 ∧ j = k then w else if b = 15 ∧ j = k then u else P b j := by
    intro b j
    unfold ap1
    rw [f0 5 (by decide), p3, f3, sp_n (by omega) (by decide), sp_n (by omega) (by decide), sp_n (by omega) (by decide), sp_n (by omega) (by decide), sp_n (by omega) (by decide), nI_1]
    simp only [sm_x]
  generalize ap1 P u w (nI s) (nI (s + S1.length)) = R at e
  have eP : ∀ i, R 20 i = P 20 i ∧ R 21 i = P 21 i := fun i => ⟨by rw [e]; simp, by rw [e]; simp⟩
  have g1 : prg R s S1 := fun j x hj => by
    have hlt := (List.getElem?_eq_some_iff.mp hj).1
    rw [(eP _).1, (eP _).2]
    exact f1 j x (by rw [List.getElem?_append_left hlt]; exact hj)
  have g2 : prg R (s + S1.length) S2 := fun j x hj => by
    rw [(eP _).1, (eP _).2, Nat.add_assoc]
    refine f1 (S1.length + j) x ?_
    rw [List.getElem?_append_right (by omega), Nat.add_sub_cancel_left]
    exact hj
  have g3 : ∀ a (T : List (Int32 × Int32)), a + T.length ≤ s → prg Q a T → prg R a T := fun a T ha hT j x hj => by
    have hlt := (List.getElem?_eq_some_iff.mp hj).1
    rw [(eP _).1, (eP _).2, (f2 _ (by omega)).1, (f2 _ (by omega)).2]
    exact hT j x hj
  refine ⟨fun i h5 h6 => ?_, fun b h1 h14 => ?_, ?_, ?_, by omega, fun j hj => ?_⟩
  · rw [e, f0 i h6, p1 i h5 h6]
    simp [h5]
  · funext i
    rw [e, f4 b (by omega) (by omega) (by omega), p2 b h1 h14]
    simp [show ¬ b = 0 by omega, show ¬ b = 15 by omega, show ¬ b = 16 by omega, show ¬ b = 17 by omega, show ¬ b = 18 by omega, show ¬ b = 19 by omega]
  · rw [e]; simp
  · rw [e, f3]; simp
  · by_cases c : j = k
    · subst c
      refine ⟨s, s + S1.length, s + S1.length + S2.length, by rw [e]; simp, by rw [e]; simp, by rw [e]; simp, by rw [e]; simpa using hw, ?_, by rw [h2], Nat.le_refl _, by rw [← h2]; exact g2⟩
      rcases hx with ⟨x1, x2, x3, x4⟩ | ⟨x1, x2, x3⟩
      · exact Or.inl ⟨x1, by rw [e]; simpa using x2, x3⟩
      · exact Or.inr ⟨x1, by rw [e]; simpa using x2, by rw [x3], by rw [← x3]; exact g1⟩
    · obtain ⟨a, b, z, q1, q2, q3, q4, q5, q6, q7, q8⟩ := p6 j (by omega)
      have en : ∀ b', b' ≠ 0 → b' ≠ 20 → b' ≠ 21 → R b' j = Q b' j := fun b' h0 h1 h2 => by
        rw [e, f4 b' h0 h1 h2]
        simp [c, h0]
      refine ⟨a, b, z, by rw [en 17 (by decide) (by decide) (by decide), q1], by rw [en 18 (by decide) (by decide) (by decide), q2], by rw [en 19 (by decide) (by decide) (by decide), q3], by rw [en 16 (by decide) (by decide) (by decide), q4], ?_, q6, by omega, g3 b _ (by omega) q8⟩
      rw [en 15 (by decide) (by decide) (by decide)]
      rcases q5 with q5 | ⟨x1, x2, x3, x4⟩
      · exact Or.inl q5
      · exact Or.inr ⟨x1, x2, x3, g3 a _ (by omega) x4⟩
/-- an order's line -/
theorem ln_6 (g : gQ h r pl N) (p : PI ce L0 (n1 ce) (n3 ce) (n4 ce) (n5 ce) Q0 L) (po : PO ce Q0 k s Q) (hk : k < 7) (hT : Tat N L0 q (toks (i6 ce k))) (hi : i < 400) : ∃ Q' s', PO ce Q0 (k + 1) s' Q' ∧ xe (ixP fv) (d + 22) 44 50 [some (.ref r), some (.ref tp), some (.int (nI i))] [] (wq h r pl N L q Q) = xe (ixP fv) (d + 22) 44 50 [some (.ref r), some (.ref tp), some (.int (nI (i + 1)))] [] (wq h r pl N L (q + (toks (i6 ce k)).length) Q') := by
  have hT := Tat_L p.2.2.2.2.2.1 hT
  have h1 := n1_b (ce := ce)
  have h2 := n2_b (ce := ce)
  have h4 := n4_b (ce := ce)
  have h5 := n5_b (ce := ce)
  obtain ⟨j1, j2, j3, j4, j5, j6, j7⟩ := i6_b (ce := ce) k
  obtain ⟨s4, s8⟩ := so6_eq (ce := ce) (k := k)
  have hwh := wh6_b (ce := ce) (k := k)
  have hm : NM L (n1 ce) (n4 ce) (n5 ce) := ⟨⟨by omega, by omega, by omega⟩, fun j hj => fo98 p.2.2.2.2.2.2.1 (by omega) hj, fun j hj => fo99 p.2.2.2.2.2.2.2.2.1 (by omega) hj, fun j hj => fo102 p.2.2.2.2.2.2.2.2.2 (by omega) hj⟩
  have hQ : cQ (n1 ce) (n4 ce) (n5 ce) Q := ⟨(po.1 0 (by decide) (by decide)).trans p.1.1, (po.1 3 (by decide) (by decide)).trans p.1.2.2.2.1, (po.1 4 (by decide) (by decide)).trans p.1.2.2.2.2.1⟩
  have q5 : Q 0 5 = nI k := po.2.2.1
  have q6 : Q 0 6 = nI s := po.2.2.2.1
  have eS : cS (blw (sX ce k >>> (4 &&& 31)) 6) (blw (sX ce k >>> (5 &&& 31)) 130) (blw (sY ce k >>> (5 &&& 31)) (n2 ce + 2)) (blw (sX ce k >>> (3 &&& 31)) (n4 ce)) (blw (sY ce k >>> (2 &&& 31)) (n5 ce)) = cSu (WM ce 6 k) := (cSu_a (own := WM ce 6 k) rfl rfl rfl rfl rfl j1 j2).symm
  have eH : cH (a46 ce k) (blw (sY ce k >>> (3 &&& 31)) 90) (blw (sY ce k >>> (5 &&& 31)) (n2 ce + 2)) (blw (sX ce k >>> (6 &&& 31)) (n1 ce)) (blw (sX ce k >>> (3 &&& 31)) (n4 ce)) (blw (sY ce k >>> (2 &&& 31)) (n5 ce)) = cHo (WM ce 6 k) := (cHo_a (own := WM ce 6 k) s4 rfl rfl rfl rfl rfl s8).symm
  have lS := (le_s (a3 := blw (sX ce k >>> (5 &&& 31)) 130) (a6 := blw (sY ce k >>> (5 &&& 31)) (n2 ce + 2)) (a8 := blw (sX ce k >>> (3 &&& 31)) (n4 ce)) (a9 := blw (sY ce k >>> (2 &&& 31)) (n5 ce)) j1).2
  have lH := (le_t (a5 := blw (sY ce k >>> (3 &&& 31)) 90) (a6 := blw (sY ce k >>> (5 &&& 31)) (n2 ce + 2)) (a7 := blw (sX ce k >>> (6 &&& 31)) (n1 ce)) (a8 := blw (sX ce k >>> (3 &&& 31)) (n4 ce)) (a9 := blw (sY ce k >>> (2 &&& 31)) (n5 ce)) s8).2
  by_cases c : sc6 ce k = true
  · have a8 := a46_sc c
    have hw5 : wh6 ce k < n5 ce := by
      unfold wh6
      rw [if_pos c]
      exact blw_lt (by omega)
    have ei : i6 ce k = itS (wh6 ce k) (i6t ce k) := if_pos c
    have et : toks (i6 ce k) = [[115, 99, 97, 114, 101], 102 :: dgt (wh6 ce k)] ++ (toks (i6t ce k) ++ [[59]]) := by
      rw [ei]
      unfold itS
      rw [toks_app, toks_app]
      rfl
    rw [et] at hT ⊢
    obtain ⟨t1, t2⟩ := Tat_app.mp hT
    obtain ⟨t2, t3⟩ := Tat_app.mp t2
    have T0 : TK N q = 16 := (t1 0 _ rfl).1.trans kk16.2.2
    have T1 : TK N (q + 1) = 97 := (t1 1 _ rfl).1.trans (kn102 _ (by omega)).2.2
    have F1 : fnd (L 6) (TV L (q + 1)) (n5 ce) = nI (wh6 ce k) := by
      rw [(t1 1 _ rfl).2]
      exact hm.2.2.2 _ hw5
    have T2 : TK N (q + 2 + (toks (i6t ce k)).length) = 59 := (t3 0 _ rfl).1.trans ks59.2.2
    obtain ⟨T3, hp⟩ := te_all (fv := fv) (q1 := q + 2 + (toks (i6t ce k)).length) g hm a8 (show blw (sY ce k >>> (3 &&& 31)) 90 < 130 by omega) (show blw (sY ce k >>> (5 &&& 31)) (n2 ce + 2) < 130 by omega) j5 j6 j7 t2 rfl T2
    have e := r56 (fv := fv) (d := d) g hQ q5 (show k < 16 by omega) T0 T1 (show n5 ce ≤ 3 by omega) F1 (nm1 (by omega)) T3 hp
    have e2 := r44_s (tp := tp) g T0 hi e T2
    rw [q6, eH] at e2
    refine ⟨_, _, PO_x (S1 := []) po hk (by rw [← eH]; show 0 + _ ≤ 23; omega) rfl (Or.inl ⟨?_, rfl, ?_, rfl⟩) rfl, e2.trans ?_⟩
    · show b01 (sc6 ce k) = 1
      rw [c]
      rfl
    · show ¬ so6 ce k = -1
      rw [s4, if_neg (by omega)]
      have key : ∀ a, a < 8 → ¬ nI a = -1 := by decide +kernel
      exact key _ a8
    · have ln : ([[115, 99, 97, 114, 101], 102 :: dgt (wh6 ce k)] ++ (toks (i6t ce k) ++ [[59]])).length = 2 + ((toks (i6t ce k)).length + 1) := by
        rw [List.length_append, List.length_append]
        rfl
      rw [ln, show q + (2 + ((toks (i6t ce k)).length + 1)) = q + 2 + (toks (i6t ce k)).length + 1 by omega]
      rfl
  · have hw4 : wh6 ce k < n4 ce := by
      unfold wh6
      rw [if_neg c]
      exact blw_lt (by omega)
    have ei : i6 ce k = itG (wh6 ce k) (i6s ce k) (i6t ce k) := if_neg c
    have et : toks (i6 ce k) = [[103, 111], 99 :: dgt (wh6 ce k), [116, 111]] ++ (toks (i6s ce k) ++ (toks (i6t ce k) ++ [[59]])) := by
      rw [ei]
      unfold itG
      rw [toks_app, toks_app, toks_app]
      rfl
    rw [et] at hT ⊢
    obtain ⟨t1, t2⟩ := Tat_app.mp hT
    obtain ⟨t2, t3⟩ := Tat_app.mp t2
    obtain ⟨t3, t4⟩ := Tat_app.mp t3
    have T0 : TK N q = 14 := (t1 0 _ rfl).1.trans kk14.2.2
    have T1 : TK N (q + 1) = 97 := (t1 1 _ rfl).1.trans (kn99 _ (by omega)).2.2
    have T2 : TK N (q + 2) = 15 := (t1 2 _ rfl).1.trans kk15.2.2
    have F1 : fnd (L 5) (TV L (q + 1)) (n4 ce) = nI (wh6 ce k) := by
      rw [(t1 1 _ rfl).2]
      exact hm.2.2.1 _ hw4
    have T3 : TK N (q + 3 + (toks (i6s ce k)).length + (toks (i6t ce k)).length) = 59 := (t4 0 _ rfl).1.trans ks59.2.2
    have b0 : b01 (sc6 ce k) = 0 := by
      rcases hb : sc6 ce k with _ | _
      · rfl
      · exact absurd hb c
    by_cases c8 : a46 ce k = 8
    · have et0 : i6t ce k = [] := by
        unfold i6t
        rw [c8]
        rfl
      have eH0 : cHo (WM ce 6 k) = [] := by
        rw [← eH, c8]
        rfl
      rw [et0] at T3 ⊢
      have T3 : TK N (q + 3 + (toks (i6s ce k)).length) = 59 := T3
      have hs := su_all (fv := fv) (q1 := q + 3 + (toks (i6s ce k)).length) g hm j1 j2 (show blw (sY ce k >>> (5 &&& 31)) (n2 ce + 2) < 130 by omega) j6 j7 t2 rfl (Or.inr T3)
      have e := r55' (fv := fv) (d := d) g hQ q5 (show k < 16 by omega) T0 T1 (show n4 ce ≤ 3 by omega) F1 (nm1 (by omega)) T2 hs T3
      have e2 := r44_g (tp := tp) g T0 hi e T3
      have f3 := (stp_x (cS (blw (sX ce k >>> (4 &&& 31)) 6) (blw (sX ce k >>> (5 &&& 31)) 130) (blw (sY ce k >>> (5 &&& 31)) (n2 ce + 2)) (blw (sX ce k >>> (3 &&& 31)) (n4 ce)) (blw (sY ce k >>> (2 &&& 31)) (n5 ce))) Q s q6 (by have := po.2.2.2.2.1; omega)).2.2.1
      rw [f3, q6, eS] at e2
      refine ⟨_, _, PO_x (S1 := cSu (WM ce 6 k)) (S2 := []) (u := 14) (w := nI (wh6 ce k)) po hk (by rw [← eS]; show _ + 0 ≤ 23; omega) rfl (Or.inr ⟨b0, rfl, rfl⟩) eH0.symm, e2.trans ?_⟩
      have ln : ([[103, 111], 99 :: dgt (wh6 ce k), [116, 111]] ++ (toks (i6s ce k) ++ (toks [] ++ [[59]]))).length = 3 + ((toks (i6s ce k)).length + 1) := by
        rw [List.length_append, List.length_append]
        rfl
      rw [List.append_nil, ln, show q + (3 + ((toks (i6s ce k)).length + 1)) = q + 3 + (toks (i6s ce k)).length + 1 by omega]
    · have a8 : a46 ce k < 8 := by omega
      obtain ⟨T4, ht⟩ := te_all (fv := fv) (q1 := q + 3 + (toks (i6s ce k)).length + (toks (i6t ce k)).length) g hm a8 (show blw (sY ce k >>> (3 &&& 31)) 90 < 130 by omega) (show blw (sY ce k >>> (5 &&& 31)) (n2 ce + 2) < 130 by omega) j5 j6 j7 t3 rfl T3
      have hs := su_all (fv := fv) (q1 := q + 3 + (toks (i6s ce k)).length) g hm j1 j2 (show blw (sY ce k >>> (5 &&& 31)) (n2 ce + 2) < 130 by omega) j6 j7 t2 rfl (Or.inl T4)
      have e := r55 (fv := fv) (d := d) g hQ q5 (show k < 16 by omega) T0 T1 (show n4 ce ≤ 3 by omega) F1 (nm1 (by omega)) T2 hs T4 ht
      have e2 := r44_g (tp := tp) g T0 hi e T3
      have f3 := (stp_x (cS (blw (sX ce k >>> (4 &&& 31)) 6) (blw (sX ce k >>> (5 &&& 31)) 130) (blw (sY ce k >>> (5 &&& 31)) (n2 ce + 2)) (blw (sX ce k >>> (3 &&& 31)) (n4 ce)) (blw (sY ce k >>> (2 &&& 31)) (n5 ce))) Q s q6 (by have := po.2.2.2.2.1; omega)).2.2.1
      rw [f3, q6, stp_app, eS, eH] at e2
      refine ⟨_, _, PO_x (S1 := cSu (WM ce 6 k)) (S2 := cHo (WM ce 6 k)) (u := 14) (w := nI (wh6 ce k)) po hk (by rw [← eS, ← eH]; omega) rfl (Or.inr ⟨b0, rfl, rfl⟩) rfl, e2.trans ?_⟩
      have ln : ([[103, 111], 99 :: dgt (wh6 ce k), [116, 111]] ++ (toks (i6s ce k) ++ (toks (i6t ce k) ++ [[59]]))).length = 3 + ((toks (i6s ce k)).length + ((toks (i6t ce k)).length + 1)) := by
        rw [List.length_append, List.length_append, List.length_append]
        rfl
      rw [ln, show q + (3 + ((toks (i6s ce k)).length + ((toks (i6t ce k)).length + 1))) = q + 3 + (toks (i6s ce k)).length + (toks (i6t ce k)).length + 1 by omega]
theorem lp_6 (g : gQ h r pl N) (p : PI ce L0 (n1 ce) (n3 ce) (n4 ce) (n5 ce) Q0 L) : ∀ (r' k q i s : Nat) (Q : Mem), k + r' = n6 ce → PO ce Q0 k s Q → Tat N L0 q (cat (fun k => toks (i6 ce k)) k r') → i + r' ≤ 400 → ∃ Q' s', PO ce Q0 (n6 ce) s' Q' ∧ xe (ixP fv) (d + 22) 44 50 [some (.ref r), some (.ref tp), some (.int (nI i))] [] (wq h r pl N L q Q) = xe (ixP fv) (d + 22) 44 50 [some (.ref r), some (.ref tp), some (.int (nI (i + r')))] [] (wq h r pl N L (q + (cat (fun k => toks (i6 ce k)) k r').length) Q')
  | 0, k, q, i, s, Q, hk, po, hT, hi => by
    have hk : k = n6 ce := hk
    rw [← hk]
    exact ⟨Q, s, po, rfl⟩
  | r' + 1, k, q, i, s, Q, hk, po, hT, hi => by
    have hb := n6_b (ce := ce)
    obtain ⟨t1, t2⟩ := Tat_app.mp (show Tat N L0 q (toks (i6 ce k) ++ cat (fun k => toks (i6 ce k)) (k + 1) r') from hT)
    obtain ⟨Q1, s1, p1, e1⟩ := ln_6 (fv := fv) (d := d) (tp := tp) g p po (show k < 7 by omega) t1 (show i < 400 by omega)
    obtain ⟨Q2, s2, p2, e2⟩ := lp_6 g p r' (k + 1) (q + (toks (i6 ce k)).length) (i + 1) s1 Q1 (by omega) p1 t2 (by omega)
    refine ⟨Q2, s2, p2, e1.trans (e2.trans ?_)⟩
    show _ = xe (ixP fv) (d + 22) 44 50 [some (.ref r), some (.ref tp), some (.int (nI (i + (r' + 1))))] [] (wq h r pl N L (q + (toks (i6 ce k) ++ cat (fun k => toks (i6 ce k)) (k + 1) r').length) Q2)
    rw [List.length_append, show i + 1 + r' = i + (r' + 1) by omega, ← Nat.add_assoc q (toks (i6 ce k)).length _]
end RD9
