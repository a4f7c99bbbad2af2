/-! TAUGHT AND THE LAW AS A WHOLE (written by gen9999995.py). -/
section LAW0
variable {fv : Value} {d : Nat} {h h4 : ix_H} {b o v s q w k N m : Nat} {xs : Nat → Int32} {ce : Nat → Int32}
theorem ap_r {l1 l2 : ix_H} (e : l1.length = m) : (l1 ++ l2)[m + k]? = l2[k]? := by
  rw [List.getElem?_append_right (by omega), show m + k - l1.length = k by omega]
theorem ap_l {l1 l2 : ix_H} (e : l1.length = m) (hk : k < m) : (l1 ++ l2)[k]? = l1[k]? := List.getElem?_append_left (by omega)
theorem nC_eq : newC b = [.inr (6, [.ref (b + 1), .ref (b + 3), .ref (b + 57), .ref (b + 67), .int (-1)]), .inr (4, [.ref (b + 2), .int 0]), ia 2000 (fun _ => 0)] ++ (rdc (b + 3) (b + 13) Z0 L00 ++ (plc (b + 13) Z0 ++ (plc (b + 35) Z0 ++ (arc (b + 57) (b + 35) A00 ++ arc (b + 67) (b + 35) A00)))) := rfl
theorem nC_r (hk : k < 10) : (newC b)[3 + k]? = (rdc (b + 3) (b + 13) Z0 L00)[k]? := by
  rw [nC_eq, ap_r (m := 3) rfl, ap_l rdc_len hk]
theorem nC_p (hk : k < 22) : (newC b)[13 + k]? = (plc (b + 13) Z0)[k]? := by
  rw [nC_eq, show 13 + k = 3 + (10 + k) by omega, ap_r (m := 3) rfl, ap_r rdc_len, ap_l plc_len hk]
theorem nC_t (hk : k < 10) : (newC b)[57 + k]? = (arc (b + 57) (b + 35) A00)[k]? := by
  rw [nC_eq, show 57 + k = 3 + (10 + (22 + (22 + k))) by omega, ap_r (m := 3) rfl, ap_r rdc_len, ap_r plc_len, ap_r plc_len, ap_l arc_len hk]
theorem nC_z (hk : k < 10) : (newC b)[67 + k]? = (arc (b + 67) (b + 35) A00)[k]? := by
  rw [nC_eq, show 67 + k = 3 + (10 + (22 + (22 + (10 + k)))) by omega, ap_r (m := 3) rfl, ap_r rdc_len, ap_r plc_len, ap_r plc_len, ap_r arc_len]
theorem nC_len : (newC b).length = 77 := rfl
theorem nC_sz : ix_sz (newC b) ≤ 10000 := by
  rw [nC_eq]
  simp only [ix_sz_app]
  have e1 : ix_sz [(.inr (6, [.ref (b + 1), .ref (b + 3), .ref (b + 57), .ref (b + 67), .int (-1)]) : ix_C), .inr (4, [.ref (b + 2), .int 0]), ia 2000 (fun _ => 0)] = 2019 := by
    simp [ix_sz, ix_cs, ia]
  have e2 : ix_sz (rdc (b + 3) (b + 13) Z0 L00) = 1277 := by
    simp [ix_sz, ix_cs, ia, ja, rdc]
  have e3 : ∀ p, ix_sz (plc p Z0) = 1006 := fun p => by
    simp [ix_sz, ix_cs, ia, plc]
  have e4 : ∀ p q, ix_sz (arc p q A00) = 556 := fun p q => by
    simp [ix_sz, ix_cs, ia, arc]
  rw [e1, e2, e3, e3, e4, e4]
  decide
/-- taught -/
theorem m169 (hfv : fv = .null ∨ fv = .ref 97) (h98 : 98 ≤ b) (cC : ∀ k, k < 77 → h4[b + k]? = (newC b)[k]?) (hl : b + 77 ≤ h4.length) (hq : b + 77 ≤ q) (hw : b + 77 ≤ w) (hs : isStr h4 q w (TXT ce)) (hT : (TXT ce).length ≤ 1400) : ∃ G' L' Q0 s Q', PI ce L' (n1 ce) (n3 ce) (n4 ce) (n5 ce) Q0 L' ∧ PO ce Q0 (n6 ce) s Q' ∧ xe (ixP fv) (d + 24) 169 0 [some (.ref b), some (.ref q), none, none, none, none] [] h4 = some (.inl (some (.int 0)), G') ∧ G'.length = h4.length + 1 ∧ ix_sz G' = ix_sz h4 + 5 ∧ (∀ o, o < b → G'[o]? = h4[o]?) ∧ G'[b]? = some (.inr (6, [.ref (b + 1), .ref (b + 3), .ref (b + 57), .ref (b + 67), .int (-1)])) ∧ G'[b + 1]? = some (.inr (4, [.ref (b + 2), .int 0])) ∧ (∀ k, k < 22 → G'[b + 13 + k]? = (plc (b + 13) Q')[k]?) ∧ (∀ k, k < 10 → G'[b + 57 + k]? = (arc (b + 57) (b + 13) (bgL Q' A00))[k]?) ∧ ∀ k, k < 10 → G'[b + 67 + k]? = (arc (b + 67) (b + 35) A00)[k]? := by
  have cb : h4[b]? = some (.inr (6, [.ref (b + 1), .ref (b + 3), .ref (b + 57), .ref (b + 67), .int (-1)])) := cC 0 (by decide)
  have ha := (TXT_tk (ce := ce)).1
  have e0 : wT h4 (b + 1) (fun _ => 0) 0 = h4 := ov_self (cs := tpc (b + 1) (fun _ => 0) 0) (fun k hk => by
    have hk : k < 2 := hk
    rcases k with _ | _ | k
    · exact cC 1 (by decide)
    · exact cC 2 (by decide)
    · omega)
  obtain ⟨F', T', m3, m4, m5, f1, e1⟩ := m169_0 (fv := fv) (d := d + 16) (T := fun _ => 0) (tp := b + 1) (b := b) (w := w) (q := q) ⟨hs, Or.inr (by omega), Or.inr (by omega)⟩ hfv ha (by omega) h98 (by omega) (by omega) cb
  rw [e0] at e1
  have hln : (h4 ++ [ia 5 F']).length = h4.length + 1 := by rw [List.length_append]; rfl
  have G0 : (wT (h4 ++ [ia 5 F']) (b + 1) T' (nI (TXT ce).length))[b + 1]? = some (.inr (4, [.ref (b + 1 + 1), .int (nI (TXT ce).length)])) := wT_0 (by omega)
  have G1 : (wT (h4 ++ [ia 5 F']) (b + 1) T' (nI (TXT ce).length))[b + 1 + 1]? = some (ia 2000 T') := wT_1 (by omega)
  have Gk : ∀ o, o < b + 1 ∨ b + 1 + 2 ≤ o → o < h4.length → (wT (h4 ++ [ia 5 F']) (b + 1) T' (nI (TXT ce).length))[o]? = h4[o]? := fun o c1 c2 => (wT_o c1).trans (List.getElem?_append_left c2)
  have Gl : (wT (h4 ++ [ia 5 F']) (b + 1) T' (nI (TXT ce).length)).length = h4.length + 1 := (ov_len _ _ _).trans hln
  have Gz : ix_sz (wT (h4 ++ [ia 5 F']) (b + 1) T' (nI (TXT ce).length)) = ix_sz h4 + 5 := by
    have z1 : ix_sz (wT (h4 ++ [ia 5 F']) (b + 1) T' (nI (TXT ce).length)) = ix_sz (h4 ++ [ia 5 F']) := ix_sz_ov (cs := tpc (b + 1) T' (nI (TXT ce).length)) (fun k hk => by
      have hk : k < 2 := hk
      rcases k with _ | _ | k
      · rw [show b + 1 + 0 = b + 1 by omega, List.getElem?_append_left (by omega), cC 1 (by decide)]
        rfl
      · rw [show b + 1 + (0 + 1) = b + 2 by omega, List.getElem?_append_left (by omega), cC 2 (by decide)]
        rfl
      · omega)
    rw [z1, ix_sz_push]
    rfl
  generalize wT (h4 ++ [ia 5 F']) (b + 1) T' (nI (TXT ce).length) = G at e1 G0 G1 Gk Gl Gz
  have Gb := (Gk b (by omega) (by omega)).trans cb
  have c3 : ∀ k, k < 74 → G[b + 3 + k]? = (newC b)[3 + k]? := fun k hk => by
    rw [Gk _ (by omega) (by omega), Nat.add_assoc]
    exact cC _ (by omega)
  obtain ⟨G', L', Q0, s, Q', p1, p2, e2, l2, z2, k1, k2, k3, k4⟩ := m93 (fv := fv) (d := d) (tp := b + 1) (r := b + 3) (pl := b + 13) (t := b + 57) (t2 := b + 67) (p0 := b + 35) (N := Z0) (L := L00) (Q := Z0) (A := A00) (ce := ce) h98 (by omega) (by omega) (by omega) (by omega) (show b + 57 + 10 ≤ G.length by omega) Gb G0 G1 f1 (by omega) (fun k hk => (c3 k (by omega)).trans (nC_r hk)) rfl (fun k hk => by
    have := c3 (10 + k) (by omega)
    rw [show b + 3 + (10 + k) = b + 13 + k by omega, show 3 + (10 + k) = 13 + k by omega] at this
    exact this.trans (nC_p hk)) (fun k hk => by
    have := c3 (54 + k) (by omega)
    rw [show b + 3 + (54 + k) = b + 57 + k by omega, show 3 + (54 + k) = 57 + k by omega] at this
    exact this.trans (nC_t hk))
  refine ⟨G', L', Q0, s, Q', p1, p2, ?_, by rw [l2, Gl], by rw [z2, Gz], fun o ho => (k4 o (by omega) (by omega) (by omega) (by omega)).trans (Gk o (by omega) (by omega)), (k4 b (by omega) (by omega) (by omega) (by omega)).trans Gb, k3, k1, k2, fun k hk => ?_⟩
  · have isG : ix_is (ixP fv) G b "SkylightWash" = true := is_of Gb (by decide +kernel)
    refine Eq.trans e1 ?_
    simp only [q169_134, q169_135, q169_138 (st := []), i10, eq_self, ft0, ft1, b01_ft, k1r, k1i, xG_some, xH_some, xC_v, xC_n, if_true, if_false, not_true_eq_false, not_false_eq_true, ix_st, ix_st2, List.getElem?_cons_succ, List.getElem?_cons_zero, List.set_cons_succ, List.set_cons_zero, Value.category, List.map_cons, List.map_nil, List.sum_cons, List.sum_nil, Nat.reduceAdd, Nat.reduceLeDiff, Nat.reduceEqDiff, Nat.zero_le, reduceCtorEq, ↓reduceIte, eq_self, Bool.not_eq_true, Bool.true_eq_false, Bool.false_eq_true, not_true, not_false_eq_true, isG, e2]
  · have := c3 (64 + k) (by omega)
    rw [show b + 3 + (64 + k) = b + 67 + k by omega, show 3 + (64 + k) = 67 + k by omega] at this
    exact (k4 _ (by omega) (by omega) (by omega) (by omega)).trans (this.trans (nC_z hk))
/-- the law as a whole -/
theorem law_run (hfv : fv = .null ∨ fv = .ref 97) (hN : N ≤ 300) : ∃ h', xe (ixP fv) (d + 30) 0 0 [some (.ref 0), none, none, none, none, none, none, none, none, none, none, none, none, none, none, none, none, none, none, none, none, none, none, none, none, none, none, none, none, none, none, none] [] (ixRO N xs) = some (.inl (some (.int 1)), h') ∧ h'.length ≤ 10000 ∧ ix_sz h' ≤ ix_sz (ixRO N xs) + 3100000 := by
  have hR : (ixRO N xs).length = 98 := ixs_len N xs
  have hO0 : OK N xs (ixRO N xs) := fun q _ => rfl
  obtain ⟨h1, eN, ⟨s1, O1, -⟩, y1, z1⟩ := SN_new (fv := fv) (d := d + 28) hO0 (by omega)
  have l1 : 98 ≤ h1.length := by
    obtain ⟨cap, a, mb, c1, -⟩ := s1
    have := lt_of c1
    omega
  obtain ⟨h2, v', X, D, eL, g2, t2, y2, y2', z2⟩ := m172 (fv := fv) (d := d + 20) s1 O1 l1 hN
  have i0 : ix_is (ixP fv) (ixRO N xs ++ [.inr (9, [defaultValue (.array .byte), defaultValue .byte, defaultValue .boolean, defaultValue .int])]) (ixRO N xs).length "java/lang/StringBuilder" = true := is_of get_end (by decide +kernel)
  have e90 := c90 (fv := fv) (d := d + 23) hfv g2.2.1 g2.2.2.1
  have i1 : ix_is (ixP fv) (h2 ++ [.inr (6, [defaultValue (.object "SkylightWash$Tape"), defaultValue (.object "SkylightWash$Reader"), defaultValue (.object "SkylightWash$Arcade"), defaultValue (.object "SkylightWash$Arcade"), defaultValue .int])]) h2.length "SkylightWash" = true := is_of get_end (by decide +kernel)
  have l3 : (h2 ++ newC h2.length).length = h2.length + 77 := by rw [List.length_append]; rfl
  have s3 : isSB (h2 ++ newC h2.length) (ixRO N xs).length v' (TXT (cel xs N)) := by
    obtain ⟨cap, a, mb, c1, c2, c3⟩ := g2.1
    exact ⟨cap, a, mb, (List.getElem?_append_left (lt_of c1)).trans c1, (List.getElem?_append_left (lt_of c2)).trans c2, c3⟩
  have i2 : ix_is (ixP fv) (h2 ++ newC h2.length) (ixRO N xs).length "java/lang/StringBuilder" = true := by
    obtain ⟨cap, a, mb, c1, -⟩ := s3
    exact isSb c1
  obtain ⟨h4, eT, s4, k4, l4, z4⟩ := m159 (fv := fv) (d := d + 24) s3 (by omega)
  have g98 := g2.2.2.1
  obtain ⟨G, L', Q0, s, Q', p1, p2, e5, l5, z5, k5, c1, c2, c3, c4, c5⟩ := m169 (fv := fv) (d := d + 5) (b := h2.length) (h4 := h4) (ce := cel xs N) hfv g98 (fun k hk => by
    rw [k4 _ (by omega)]
    exact ap_r rfl) (by omega) (by omega) (by omega) s4 t2
  have kk : ∀ q, q < h2.length → G[q]? = h2[q]? := fun q hq => (k5 q hq).trans ((k4 q (by omega)).trans (List.getElem?_append_left hq))
  have HI0 := H_0 (H := G) g2 rfl kk (by omega) c1 c2 c3 c4 c5 (I_INV p1 p2)
  have G0 : G[0]? = some (.inl (0, N, .inl xs)) := (kk 0 (by omega)).trans (g2.2.1 0 (by decide))
  obtain ⟨H', eR, lR, zR⟩ := r_loop (fv := fv) (d := d + 20) (l1 := some (.ref (ixRO N xs).length)) hN 40 0 G _ _ _ none none none none none none none none none none none none none none none none none none none none none none none none none none none (Nat.zero_add _) HI0 G0
  have zC := nC_sz (b := h2.length)
  have z3 : ix_sz (h2 ++ newC h2.length) = ix_sz h2 + ix_sz (newC h2.length) := ix_sz_app _ _
  refine ⟨H', Eq.trans ?_ eR, by omega, by omega⟩
  have eN' : xe (ixP fv) (d + 29) 156 0 [some (.ref (ixRO N xs).length)] [] (ixRO N xs ++ [.inr (9, [defaultValue (.array .byte), defaultValue .byte, defaultValue .boolean, defaultValue .int])]) = some (.inl none, h1) := eN
  have eL' : xe (ixP fv) (d + 29) 172 0 [some (.ref 0), some (.ref (ixRO N xs).length), none, none, none, none, none, none, none, none, none] [] h1 = some (.inl (some (.ref h1.length)), h2) := eL
  have e90' : xe (ixP fv) (d + 29) 90 0 [some (.ref h2.length), none] [] (h2 ++ [.inr (6, [defaultValue (.object "SkylightWash$Tape"), defaultValue (.object "SkylightWash$Reader"), defaultValue (.object "SkylightWash$Arcade"), defaultValue (.object "SkylightWash$Arcade"), defaultValue .int])]) = some (.inl none, h2 ++ newC h2.length) := e90
  have eT' : xe (ixP fv) (d + 29) 159 0 [some (.ref (ixRO N xs).length)] [] (h2 ++ newC h2.length) = some (.inl (some (.ref (h2 ++ newC h2.length).length)), h4) := eT
  have e5' : xe (ixP fv) (d + 29) 169 0 [some (.ref h2.length), some (.ref (h2 ++ newC h2.length).length), none, none, none, none] [] h4 = some (.inl (some (.int 0)), G) := e5
  simp only [q0_0, q0_3, q0_4, q0_7, q0_8, q0_9, q0_10, q0_13, q0_14, q0_17, q0_18, q0_21, q0_22, q0_23, q0_24, q0_27, q0_30, q0_33, q0_34 (st := []), q0_35, q0_36, i10, eq_self, ft0, ft1, b01_ft, k1r, k1i, xG_some, xH_some, xC_v, xC_n, if_true, if_false, not_true_eq_false, not_false_eq_true, ix_st, ix_st2, List.getElem?_cons_succ, List.getElem?_cons_zero, List.set_cons_succ, List.set_cons_zero, Value.category, List.map_cons, List.map_nil, List.sum_cons, List.sum_nil, Nat.reduceAdd, Nat.reduceLeDiff, Nat.reduceEqDiff, Nat.zero_le, reduceCtorEq, ↓reduceIte, eq_self, Bool.not_eq_true, Bool.true_eq_false, Bool.false_eq_true, not_true, not_false_eq_true, i0, eN', k1r, eL', e90', i1, i2, eT', e5']
  rfl
theorem hrun_ (L : Nat) (hL : L ≤ 260) (hfv : fv = .null ∨ fv = .ref 97) : ∃ h' : ix_H, xe (ixP fv) 1300 0 0 (ix_en 32 [.ref 0]) [] (ixRO L xs) = some (.inl (some (.int 1)), h') ∧ h'.length - 98 ≤ 100000 ∧ ix_sz h' - ix_sz (ixRO L xs) ≤ 4000000 := by
  obtain ⟨h', e, l, z⟩ := law_run (fv := fv) (d := 1270) (N := L) (xs := xs) hfv (by omega)
  exact ⟨h', e, by omega, by omega⟩
end LAW0
