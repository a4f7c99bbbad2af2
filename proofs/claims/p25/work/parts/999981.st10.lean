/-! THE START: the list as a whole (written by gen999981.py). -/
section ST10
variable {fv : Value} {d : Nat} {h h' : ix_H} {o v v' s q w k m t r N : Nat} {xs : Nat → Int32} {l l' : List Int32} {X X' : Nat → Nat} {D D' : Nat → Nat → Nat} {n c : Nat → Nat} {M : Mm} {l5 l6 l7 l8 l9 l10 : Option Value} {c' n' : Nat → Nat}
theorem nW1 {ce : Nat → Int32} : nW ce 1 = n1 ce := by simp only [nW]
theorem nW2 {ce : Nat → Int32} : nW ce 2 = n2 ce := by simp only [nW]
theorem nW3 {ce : Nat → Int32} : nW ce 3 = n3 ce := by simp only [nW]
theorem nW4 {ce : Nat → Int32} : nW ce 4 = n4 ce := by simp only [nW]
theorem nW5 {ce : Nat → Int32} : nW ce 5 = n5 ce := by simp only [nW]
theorem nW6 {ce : Nat → Int32} : nW ce 6 = n6 ce := by simp only [nW]
theorem upT_o {t' z : Nat} (hne : t' ≠ t) : upT c t z t' = c t' := if_neg hne
theorem LB_fld2 (g : LB N xs h o v l s X D n c (WM (cel xs N))) : ((h ++ [(.inl (5, m, .inr (.inr (.inr (.inr (fun _ => none))))) : ix_C)]).set s (obS X' (WM (cel xs N)))).length = h.length + 1 ∧ ix_sz ((h ++ [(.inl (5, m, .inr (.inr (.inr (.inr (fun _ => none))))) : ix_C)]).set s (obS X' (WM (cel xs N)))) = ix_sz h + m := by
  refine ⟨?_, ?_⟩
  · rw [List.length_set, List.length_append]
    rfl
  · rw [ix_sz_set _ s _ (obS X' (WM (cel xs N))) ((LB_push g).2.2.2.1.2) rfl, ix_sz_push]
    rfl
set_option maxHeartbeats 4000000 in
/-- list -/
theorem m172 (g0 : isSB h o v []) (hO : OK N xs h) (h98 : 98 ≤ h.length) (hN : N ≤ 300) : ∃ h' v' X D, xe (ixP fv) (d + 9) 172 0 [some (.ref 0), some (.ref o), none, none, none, none, none, none, none, none, none] [] h = some (.inl (some (.ref h.length)), h') ∧ LB N xs h' o v' (TXT (cel xs N)) h.length X D (nW (cel xs N)) (nW (cel xs N)) (WM (cel xs N)) ∧ (TXT (cel xs N)).length ≤ 1400 ∧ h.length ≤ h'.length ∧ h'.length ≤ h.length + 3000 ∧ ix_sz h' ≤ ix_sz h + 3000000 := by
  have nb1 := n1_b (ce := (cel xs N))
  have nb2 := n2_b (ce := (cel xs N))
  have nb3 := n3_b (ce := (cel xs N))
  have nb4 := n4_b (ce := (cel xs N))
  have nb5 := n5_b (ce := (cel xs N))
  have nb6 := n6_b (ce := (cel xs N))
  have eS := fun d => m121 (fv := fv) (d := d) h98
  have isS0 : ix_is (ixP fv) (h ++ [.inr (7, [defaultValue .int, defaultValue .int, defaultValue .int, defaultValue .int, defaultValue (.array (.array .int)), defaultValue (.array (.array .int)), defaultValue (.array (.array .int)), defaultValue (.array (.array .int)), defaultValue (.array (.array .int)), defaultValue (.array (.array .int))])]) h.length "SkylightWashLaw$Sim" = true := is_of get_end (by decide +kernel)
  have gA := LB_0 (N := N) (xs := xs) g0 hO h98
  have zA : (h ++ [(.inr (7, [.int 0, .int 0, .int 0, .int (-1), .ref (h.length + 1), .ref (h.length + 2), .ref (h.length + 3), .ref (h.length + 4), .ref (h.length + 5), .ref (h.length + 6)]) : ix_C), (.inl (5, 0, .inr (.inr (.inr (.inr (fun _ => none))))) : ix_C), (.inl (5, 0, .inr (.inr (.inr (.inr (fun _ => none))))) : ix_C), (.inl (5, 0, .inr (.inr (.inr (.inr (fun _ => none))))) : ix_C), (.inl (5, 0, .inr (.inr (.inr (.inr (fun _ => none))))) : ix_C), (.inl (5, 0, .inr (.inr (.inr (.inr (fun _ => none))))) : ix_C), (.inl (5, 0, .inr (.inr (.inr (.inr (fun _ => none))))) : ix_C)]).length = h.length + 7 := by rw [List.length_append]; rfl
  have yA : ix_sz (h ++ [(.inr (7, [.int 0, .int 0, .int 0, .int (-1), .ref (h.length + 1), .ref (h.length + 2), .ref (h.length + 3), .ref (h.length + 4), .ref (h.length + 5), .ref (h.length + 6)]) : ix_C), (.inl (5, 0, .inr (.inr (.inr (.inr (fun _ => none))))) : ix_C), (.inl (5, 0, .inr (.inr (.inr (.inr (fun _ => none))))) : ix_C), (.inl (5, 0, .inr (.inr (.inr (.inr (fun _ => none))))) : ix_C), (.inl (5, 0, .inr (.inr (.inr (.inr (fun _ => none))))) : ix_C), (.inl (5, 0, .inr (.inr (.inr (.inr (fun _ => none))))) : ix_C), (.inl (5, 0, .inr (.inr (.inr (.inr (fun _ => none))))) : ix_C)]) ≤ ix_sz h + 100 := by
    unfold ix_sz
    rw [List.map_append, List.sum_append]
    show _ + 16 ≤ _
    omega
  generalize h ++ [(.inr (7, [.int 0, .int 0, .int 0, .int (-1), .ref (h.length + 1), .ref (h.length + 2), .ref (h.length + 3), .ref (h.length + 4), .ref (h.length + 5), .ref (h.length + 6)]) : ix_C), (.inl (5, 0, .inr (.inr (.inr (.inr (fun _ => none))))) : ix_C), (.inl (5, 0, .inr (.inr (.inr (.inr (fun _ => none))))) : ix_C), (.inl (5, 0, .inr (.inr (.inr (.inr (fun _ => none))))) : ix_C), (.inl (5, 0, .inr (.inr (.inr (.inr (fun _ => none))))) : ix_C), (.inl (5, 0, .inr (.inr (.inr (.inr (fun _ => none))))) : ix_C), (.inl (5, 0, .inr (.inr (.inr (.inr (fun _ => none))))) : ix_C)] = hA at *
  have eS : ∀ d, xe (ixP fv) d 121 0 [some (.ref h.length)] [] (h ++ [.inr (7, [defaultValue .int, defaultValue .int, defaultValue .int, defaultValue .int, defaultValue (.array (.array .int)), defaultValue (.array (.array .int)), defaultValue (.array (.array .int)), defaultValue (.array (.array .int)), defaultValue (.array (.array .int)), defaultValue (.array (.array .int))])]) = some (.inl none, hA) := eS
  obtain ⟨vA, lA, XA, DA, NA, cA, hvA⟩ : ∃ (vA : Nat) (lA : List Int32) (XA : Nat → Nat) (DA : Nat → Nat → Nat) (NA cA : Nat → Nat), LB N xs hA o vA lA h.length XA DA NA cA (WM (cel xs N)) ∧ lA = [] := ⟨_, _, _, _, _, _, gA, rfl⟩
  clear gA
  obtain ⟨gA, elA⟩ := hvA
  obtain ⟨hB, eB, gB, zB, yB⟩ : ∃ h', wF (ixP fv) (hA ++ [(.inl (5, n1 (cel xs N), .inr (.inr (.inr (.inr (fun _ => none))))) : ix_C)]) h.length (7, 4, (.array (.array .int)), false, none) false (.ref hA.length) = some h' ∧ LB N xs h' o vA lA h.length (upT XA 1 hA.length) DA (upT NA 1 (n1 (cel xs N))) (upT cA 1 0) (WM (cel xs N)) ∧ h'.length = hA.length + 1 ∧ ix_sz h' = ix_sz hA + n1 (cel xs N) := by
    have f := LB_fld (fv := fv) (t := 1) (m := n1 (cel xs N)) gA (by decide) (by decide) (by omega)
    exact ⟨_, f.1, f.2, LB_fld2 gA⟩
  have s1 : xe (ixP fv) (d + 9) 172 0 [some (.ref 0), some (.ref o), none, none, none, none, none, none, none, none, none] [] h = xe (ixP fv) (d + 9) 172 31 [some (.ref 0), some (.ref (o)), some (.ref (h.length)), some (.int (nI (fS (cel xs N) 0))), some (.int (nI 0)), none, none, none, none, none, none] [] hB := by
    have cc : ∀ d, xe (ixP fv) d 168 0 [some (.ref 0), some (.int 0)] [] hA = some (.inl (some (.int ((cel xs N) 0))), hA) := fun d => m168 (fv := fv) (d := d) (k := 0) (OK_0 gA.2.1) hN (by decide)
    have bl : ∀ (h : ix_H) (d : Nat) (y : Int32), xe (ixP fv) d 167 0 [some (.int y), some (.int 4)] [] h = some (.inl (some (.int (nI (blw y 4)))), h) := e167 (m := 4) (by decide) (by decide)
    have hone : ∀ z : Nat, 1 + nI z = nI (1 + z) := fun z => nI_add 1 z
    have pn : 1 + blw ((cel xs N) 0) 4 = n1 (cel xs N) := rfl
    have bb : ix_big (nI (n1 (cel xs N))) = true := bg (by omega)
    have kk := nI_clamp (n := n1 (cel xs N)) (by omega)
    rw [show fS (cel xs N) 0 = 0 from rfl]
    have c88 : (([] : List Value).map Value.category).sum ≤ 8 := Nat.le_of_ble_eq_true rfl
    have c89 : (([.ref h.length] : List Value).map Value.category).sum ≤ 8 := Nat.le_of_ble_eq_true rfl
    simp only [q172_0, q172_3, q172_4 c89, q172_7, q172_8, q172_9, q172_10, q172_11, q172_12, q172_15, q172_16, q172_19, q172_23, q172_26, q172_27, q172_28, q172_29, q172_20 bb, i10, eq_self, ft0, ft1, b01_ft, k1r, k1i, xG_some, xH_some, xC_v, xC_n, if_true, if_false, not_true_eq_false, not_false_eq_true, ix_st, ix_st2, List.getElem?_cons_succ, List.getElem?_cons_zero, List.set_cons_succ, List.set_cons_zero, Value.category, List.map_cons, List.map_nil, List.sum_cons, List.sum_nil, Nat.reduceAdd, Nat.reduceLeDiff, Nat.reduceEqDiff, Nat.zero_le, reduceCtorEq, ↓reduceIte, eq_self, xit, eS, isS0, cc, bl, hone, pn, kk, eB]
    rfl
  have N1 : upT NA 1 (n1 (cel xs N)) 1 = n1 (cel xs N) := upT_e
  obtain ⟨hC, vC, DC, cC, mC, gC, qC, pC, zC, yC, eC⟩ := t1_all (fv := fv) (d := d) (l6 := none) (l7 := none) (l8 := none) (l9 := none) (l10 := none) (by rw [N1]; omega) hN (n1 (cel xs N)) 0 hB vA lA DA (upT cA 1 0) none (by rw [N1]; omega) gB upT_e (by rw [elA]; exact Nat.le_refl _)
  rw [N1] at qC pC eC
  generalize hXC : upT XA 1 hA.length = XC at *
  generalize hNC : upT NA 1 (n1 (cel xs N)) = NC at *
  generalize hlC : itr (fun k l => tx1 (cel xs N) l k) 0 (n1 (cel xs N)) lA = lC at *
  obtain ⟨hE, eE, gE, zE, yE⟩ : ∃ h', wF (ixP fv) (hC ++ [(.inl (5, n2 (cel xs N), .inr (.inr (.inr (.inr (fun _ => none))))) : ix_C)]) h.length (7, 5, (.array (.array .int)), false, none) false (.ref hC.length) = some h' ∧ LB N xs h' o vC lC h.length (upT XC 2 hC.length) DC (upT NC 2 (n2 (cel xs N))) (upT cC 2 0) (WM (cel xs N)) ∧ h'.length = hC.length + 1 ∧ ix_sz h' = ix_sz hC + n2 (cel xs N) := by
    have f := LB_fld (fv := fv) (t := 2) (m := n2 (cel xs N)) gC (by decide) (by decide) (by omega)
    exact ⟨_, f.1, f.2, LB_fld2 gC⟩
  have s2 : xe (ixP fv) (d + 9) 172 173 [some (.ref 0), some (.ref (o)), some (.ref (h.length)), some (.int (nI (fS (cel xs N) (n1 (cel xs N))))), some (.int (nI (n1 (cel xs N)))), mC, none, none, none, none, none] [] hC = xe (ixP fv) (d + 9) 172 187 [some (.ref 0), some (.ref (o)), some (.ref (h.length)), some (.int (nI (n2 (cel xs N)))), some (.int (nI 0)), some (.int (nI (fS (cel xs N) 0))), none, none, none, none, none] [] hE := by
    have e2 : fS (cel xs N) (n1 (cel xs N)) = n2 (cel xs N) := rfl
    rw [show fS (cel xs N) 0 = 0 from rfl]
    have bb : ix_big (nI (n2 (cel xs N))) = true := bg (by omega)
    have kk := nI_clamp (n := n2 (cel xs N)) (by omega)
    simp only [q172_173, q172_174, q172_178, q172_181, q172_182, q172_184, q172_185, q172_175 bb, e2, i10, eq_self, ft0, ft1, b01_ft, k1r, k1i, xG_some, xH_some, xC_v, xC_n, if_true, if_false, not_true_eq_false, not_false_eq_true, ix_st, ix_st2, List.getElem?_cons_succ, List.getElem?_cons_zero, List.set_cons_succ, List.set_cons_zero, Value.category, List.map_cons, List.map_nil, List.sum_cons, List.sum_nil, Nat.reduceAdd, Nat.reduceLeDiff, Nat.reduceEqDiff, Nat.zero_le, reduceCtorEq, ↓reduceIte, eq_self, xit, bb, kk, eE]
    rfl
  obtain ⟨hF, DF, cF, mF, gF, qF1, qF2, zF, yF, eF⟩ := t2_out (fv := fv) (d := d) (l7 := none) (l8 := none) (l9 := none) (l10 := none) (n := upT NC 2 (n2 (cel xs N))) N1 upT_e (n1 (cel xs N)) 0 hE DC (upT cC 2 0) none (by omega) gE qC upT_e
  generalize hXF : upT XC 2 hC.length = XF at *
  generalize hNF : upT NC 2 (n2 (cel xs N)) = NF at *
  have lF : lC = lC := rfl
  obtain ⟨vF, elF⟩ : ∃ z, z = vC := ⟨_, rfl⟩
  rw [← elF] at gF
  obtain ⟨lF, ellF⟩ : ∃ z, z = lC := ⟨_, rfl⟩
  rw [← ellF] at gF
  obtain ⟨hG, eG, gG, zG, yG⟩ : ∃ h', wF (ixP fv) (hF ++ [(.inl (5, n3 (cel xs N), .inr (.inr (.inr (.inr (fun _ => none))))) : ix_C)]) h.length (7, 6, (.array (.array .int)), false, none) false (.ref hF.length) = some h' ∧ LB N xs h' o vF lF h.length (upT XF 3 hF.length) DF (upT NF 3 (n3 (cel xs N))) (upT cF 3 0) (WM (cel xs N)) ∧ h'.length = hF.length + 1 ∧ ix_sz h' = ix_sz hF + n3 (cel xs N) := by
    have f := LB_fld (fv := fv) (t := 3) (m := n3 (cel xs N)) gF (by decide) (by decide) (by omega)
    exact ⟨_, f.1, f.2, LB_fld2 gF⟩
  have s3 : xe (ixP fv) (d + 9) 172 256 [some (.ref 0), some (.ref (o)), some (.ref (h.length)), some (.int (nI (n2 (cel xs N)))), some (.int (nI (n1 (cel xs N)))), some (.int (nI (n2 (cel xs N)))), mF, none, none, none, none] [] hF = xe (ixP fv) (d + 9) 172 277 [some (.ref 0), some (.ref (o)), some (.ref (h.length)), some (.int (nI (n2 (cel xs N)))), some (.int (nI 0)), some (.int (nI (n2 (cel xs N)))), mF, none, none, none, none] [] hG := by
    have cc : ∀ d, xe (ixP fv) d 168 0 [some (.ref 0), some (.int 2)] [] hF = some (.inl (some (.int ((cel xs N) 2))), hF) := fun d => m168 (fv := fv) (d := d) (k := 2) (OK_0 gF.2.1) hN (by decide)
    have bl : ∀ (h : ix_H) (d : Nat) (y : Int32), xe (ixP fv) d 167 0 [some (.int y), some (.int 4)] [] h = some (.inl (some (.int (nI (blw y 4)))), h) := e167 (m := 4) (by decide) (by decide)
    have hone : ∀ z : Nat, 1 + nI z = nI (1 + z) := fun z => nI_add 1 z
    have pn : 1 + blw ((cel xs N) 2) 4 = n3 (cel xs N) := rfl
    have bb : ix_big (nI (n3 (cel xs N))) = true := bg (by omega)
    have kk := nI_clamp (n := n3 (cel xs N)) (by omega)
    simp only [q172_256, q172_257, q172_258, q172_259, q172_260, q172_263, q172_264, q172_267, q172_271, q172_274, q172_275, q172_268 bb, cc, bl, hone, pn, i10, eq_self, ft0, ft1, b01_ft, k1r, k1i, xG_some, xH_some, xC_v, xC_n, if_true, if_false, not_true_eq_false, not_false_eq_true, ix_st, ix_st2, List.getElem?_cons_succ, List.getElem?_cons_zero, List.set_cons_succ, List.set_cons_zero, Value.category, List.map_cons, List.map_nil, List.sum_cons, List.sum_nil, Nat.reduceAdd, Nat.reduceLeDiff, Nat.reduceEqDiff, Nat.zero_le, reduceCtorEq, ↓reduceIte, eq_self, xit, bb, kk, eG]
    rfl
  have lFl : lF.length ≤ 29 * n1 (cel xs N) := by rw [ellF]; exact pC
  obtain ⟨hH, vH, DH, cH, mH, gH, qH, kH, pH, zH, yH, eH⟩ := t3_all (fv := fv) (d := d) (l6 := mF) (l7 := none) (l8 := none) (l9 := none) (l10 := none) (n := upT NF 3 (n3 (cel xs N))) (by rw [upT_e]; omega) hN (n3 (cel xs N)) 0 hG vF lF DF (upT cF 3 0) (some (.int (nI (n2 (cel xs N))))) (by rw [upT_e]; omega) gG upT_e (by omega)
  have N3 : upT NF 3 (n3 (cel xs N)) 3 = n3 (cel xs N) := upT_e
  rw [N3] at qH eH
  generalize hXH : upT XF 3 hF.length = XH at *
  generalize hNH : upT NF 3 (n3 (cel xs N)) = NH at *
  generalize hlH : itr (fun k l => tx3 (cel xs N) l k) 0 (n3 (cel xs N)) lF = lH at *
  obtain ⟨hI, eI, gI, zI, yI⟩ : ∃ h', wF (ixP fv) (hH ++ [(.inl (5, n4 (cel xs N), .inr (.inr (.inr (.inr (fun _ => none))))) : ix_C)]) h.length (7, 7, (.array (.array .int)), false, none) false (.ref hH.length) = some h' ∧ LB N xs h' o vH lH h.length (upT XH 4 hH.length) DH (upT NH 4 (n4 (cel xs N))) (upT cH 4 0) (WM (cel xs N)) ∧ h'.length = hH.length + 1 ∧ ix_sz h' = ix_sz hH + n4 (cel xs N) := by
    have f := LB_fld (fv := fv) (t := 4) (m := n4 (cel xs N)) gH (by decide) (by decide) (by omega)
    exact ⟨_, f.1, f.2, LB_fld2 gH⟩
  have s4 : xe (ixP fv) (d + 9) 172 450 [some (.ref 0), some (.ref (o)), some (.ref (h.length)), some (.int (nI (n2 (cel xs N)))), some (.int (nI (n3 (cel xs N)))), mH, mF, none, none, none, none] [] hH = xe (ixP fv) (d + 9) 172 471 [some (.ref 0), some (.ref (o)), some (.ref (h.length)), some (.int (nI (n2 (cel xs N)))), some (.int (nI 0)), mH, mF, none, none, none, none] [] hI := by
    have cc : ∀ d, xe (ixP fv) d 168 0 [some (.ref 0), some (.int 4)] [] hH = some (.inl (some (.int ((cel xs N) 4))), hH) := fun d => m168 (fv := fv) (d := d) (k := 4) (OK_0 gH.2.1) hN (by decide)
    have bl : ∀ (h : ix_H) (d : Nat) (y : Int32), xe (ixP fv) d 167 0 [some (.int y), some (.int 3)] [] h = some (.inl (some (.int (nI (blw y 3)))), h) := e167 (m := 3) (by decide) (by decide)
    have hone : ∀ z : Nat, 1 + nI z = nI (1 + z) := fun z => nI_add 1 z
    have pn : 1 + blw ((cel xs N) 4) 3 = n4 (cel xs N) := rfl
    have bb : ix_big (nI (n4 (cel xs N))) = true := bg (by omega)
    have kk := nI_clamp (n := n4 (cel xs N)) (by omega)
    simp only [q172_450, q172_451, q172_452, q172_453, q172_454, q172_457, q172_458, q172_461, q172_465, q172_468, q172_469, q172_462 bb, cc, bl, hone, pn, i10, eq_self, ft0, ft1, b01_ft, k1r, k1i, xG_some, xH_some, xC_v, xC_n, if_true, if_false, not_true_eq_false, not_false_eq_true, ix_st, ix_st2, List.getElem?_cons_succ, List.getElem?_cons_zero, List.set_cons_succ, List.set_cons_zero, Value.category, List.map_cons, List.map_nil, List.sum_cons, List.sum_nil, Nat.reduceAdd, Nat.reduceLeDiff, Nat.reduceEqDiff, Nat.zero_le, reduceCtorEq, ↓reduceIte, eq_self, xit, bb, kk, eI]
    rfl
  obtain ⟨hJ, vJ, DJ, cJ, mJ, gJ, qJ, kJ, pJ, zJ, yJ, eJ⟩ := t4_all (fv := fv) (d := d) (l6 := mF) (l7 := none) (l8 := none) (l9 := none) (l10 := none) (n := upT NH 4 (n4 (cel xs N))) (by rw [upT_e]; omega) hN (n4 (cel xs N)) 0 hI vH lH DH (upT cH 4 0) mH (by rw [upT_e]; omega) gI upT_e (by omega)
  have N4 : upT NH 4 (n4 (cel xs N)) 4 = n4 (cel xs N) := upT_e
  rw [N4] at qJ eJ
  generalize hXJ : upT XH 4 hH.length = XJ at *
  generalize hNJ : upT NH 4 (n4 (cel xs N)) = NJ at *
  generalize hlJ : itr (fun k l => tx4 (cel xs N) l k) 0 (n4 (cel xs N)) lH = lJ at *
  obtain ⟨hK, eK, gK, zK, yK⟩ : ∃ h', wF (ixP fv) (hJ ++ [(.inl (5, n5 (cel xs N), .inr (.inr (.inr (.inr (fun _ => none))))) : ix_C)]) h.length (7, 8, (.array (.array .int)), false, none) false (.ref hJ.length) = some h' ∧ LB N xs h' o vJ lJ h.length (upT XJ 5 hJ.length) DJ (upT NJ 5 (n5 (cel xs N))) (upT cJ 5 0) (WM (cel xs N)) ∧ h'.length = hJ.length + 1 ∧ ix_sz h' = ix_sz hJ + n5 (cel xs N) := by
    have f := LB_fld (fv := fv) (t := 5) (m := n5 (cel xs N)) gJ (by decide) (by decide) (by omega)
    exact ⟨_, f.1, f.2, LB_fld2 gJ⟩
  have s5 : xe (ixP fv) (d + 9) 172 623 [some (.ref 0), some (.ref (o)), some (.ref (h.length)), some (.int (nI (n2 (cel xs N)))), some (.int (nI (n4 (cel xs N)))), mJ, mF, none, none, none, none] [] hJ = xe (ixP fv) (d + 9) 172 645 [some (.ref 0), some (.ref (o)), some (.ref (h.length)), some (.int (nI (n2 (cel xs N)))), some (.int (nI 0)), mJ, mF, none, none, none, none] [] hK := by
    have cc : ∀ d, xe (ixP fv) d 168 0 [some (.ref 0), some (.int 6)] [] hJ = some (.inl (some (.int ((cel xs N) 6))), hJ) := fun d => m168 (fv := fv) (d := d) (k := 6) (OK_0 gJ.2.1) hN (by decide)
    have bl : ∀ (h : ix_H) (d : Nat) (y : Int32), xe (ixP fv) d 167 0 [some (.int y), some (.int 3)] [] h = some (.inl (some (.int (nI (blw y 3)))), h) := e167 (m := 3) (by decide) (by decide)
    have hone : ∀ z : Nat, 1 + nI z = nI (1 + z) := fun z => nI_add 1 z
    have pn : 1 + blw ((cel xs N) 6) 3 = n5 (cel xs N) := rfl
    have bb : ix_big (nI (n5 (cel xs N))) = true := bg (by omega)
    have kk := nI_clamp (n := n5 (cel xs N)) (by omega)
    simp only [q172_623, q172_624, q172_625, q172_626, q172_628, q172_631, q172_632, q172_635, q172_639, q172_642, q172_643, q172_636 bb, cc, bl, hone, pn, i10, eq_self, ft0, ft1, b01_ft, k1r, k1i, xG_some, xH_some, xC_v, xC_n, if_true, if_false, not_true_eq_false, not_false_eq_true, ix_st, ix_st2, List.getElem?_cons_succ, List.getElem?_cons_zero, List.set_cons_succ, List.set_cons_zero, Value.category, List.map_cons, List.map_nil, List.sum_cons, List.sum_nil, Nat.reduceAdd, Nat.reduceLeDiff, Nat.reduceEqDiff, Nat.zero_le, reduceCtorEq, ↓reduceIte, eq_self, xit, bb, kk, eK]
    rfl
  obtain ⟨hL, vL, DL, cL, mL, gL, qL, kL, pL, zL, yL, eL⟩ := t5_all (fv := fv) (d := d) (l6 := mF) (l7 := none) (l8 := none) (l9 := none) (l10 := none) (n := upT NJ 5 (n5 (cel xs N))) (by rw [upT_e]; omega) hN (n5 (cel xs N)) 0 hK vJ lJ DJ (upT cJ 5 0) mJ (by rw [upT_e]; omega) gK upT_e (by omega)
  have N5 : upT NJ 5 (n5 (cel xs N)) 5 = n5 (cel xs N) := upT_e
  rw [N5] at qL eL
  generalize hXL : upT XJ 5 hJ.length = XL at *
  generalize hNL : upT NJ 5 (n5 (cel xs N)) = NL at *
  generalize hlL : itr (fun k l => tx5 (cel xs N) l k) 0 (n5 (cel xs N)) lJ = lL at *
  obtain ⟨hM, eM, gM, zM, yM⟩ : ∃ h', wF (ixP fv) (hL ++ [(.inl (5, n6 (cel xs N), .inr (.inr (.inr (.inr (fun _ => none))))) : ix_C)]) h.length (7, 9, (.array (.array .int)), false, none) false (.ref hL.length) = some h' ∧ LB N xs h' o vL lL h.length (upT XL 6 hL.length) DL (upT NL 6 (n6 (cel xs N))) (upT cL 6 0) (WM (cel xs N)) ∧ h'.length = hL.length + 1 ∧ ix_sz h' = ix_sz hL + n6 (cel xs N) := by
    have f := LB_fld (fv := fv) (t := 6) (m := n6 (cel xs N)) gL (by decide) (by decide) (by omega)
    exact ⟨_, f.1, f.2, LB_fld2 gL⟩
  have s6 : xe (ixP fv) (d + 9) 172 769 [some (.ref 0), some (.ref (o)), some (.ref (h.length)), some (.int (nI (n2 (cel xs N)))), some (.int (nI (n5 (cel xs N)))), mL, mF, none, none, none, none] [] hL = xe (ixP fv) (d + 9) 172 790 [some (.ref 0), some (.ref (o)), some (.ref (h.length)), some (.int (nI (n2 (cel xs N)))), some (.int (nI 0)), mL, mF, none, none, none, none] [] hM := by
    have cc : ∀ d, xe (ixP fv) d 168 0 [some (.ref 0), some (.int 8)] [] hL = some (.inl (some (.int ((cel xs N) 8))), hL) := fun d => m168 (fv := fv) (d := d) (k := 8) (OK_0 gL.2.1) hN (by decide)
    have bl : ∀ (h : ix_H) (d : Nat) (y : Int32), xe (ixP fv) d 167 0 [some (.int y), some (.int 8)] [] h = some (.inl (some (.int (nI (blw y 8)))), h) := e167 (m := 8) (by decide) (by decide)
    have hone : ∀ z : Nat, 1 + nI z = nI (1 + z) := fun z => nI_add 1 z
    have pn : blw ((cel xs N) 8) 8 = n6 (cel xs N) := rfl
    have bb : ix_big (nI (n6 (cel xs N))) = true := bg (by omega)
    have kk := nI_clamp (n := n6 (cel xs N)) (by omega)
    simp only [q172_769, q172_770, q172_771, q172_773, q172_776, q172_778, q172_784, q172_787, q172_788, q172_781 bb, cc, bl, pn, i10, eq_self, ft0, ft1, b01_ft, k1r, k1i, xG_some, xH_some, xC_v, xC_n, if_true, if_false, not_true_eq_false, not_false_eq_true, ix_st, ix_st2, List.getElem?_cons_succ, List.getElem?_cons_zero, List.set_cons_succ, List.set_cons_zero, Value.category, List.map_cons, List.map_nil, List.sum_cons, List.sum_nil, Nat.reduceAdd, Nat.reduceLeDiff, Nat.reduceEqDiff, Nat.zero_le, reduceCtorEq, ↓reduceIte, eq_self, xit, bb, kk, eM]
    rfl
  have E1 : NL 1 = n1 (cel xs N) := by rw [← hNL, upT_o (by decide), ← hNJ, upT_o (by decide), ← hNH, upT_o (by decide), ← hNF, upT_o (by decide)]; exact N1
  have E2 : NL 2 = n2 (cel xs N) := by rw [← hNL, upT_o (by decide), ← hNJ, upT_o (by decide), ← hNH, upT_o (by decide), ← hNF, upT_e]
  have E3 : NL 3 = n3 (cel xs N) := by rw [← hNL, upT_o (by decide), ← hNJ, upT_o (by decide), ← hNH, upT_e]
  have E4 : NL 4 = n4 (cel xs N) := by rw [← hNL, upT_o (by decide), ← hNJ, upT_e]
  have E5 : NL 5 = n5 (cel xs N) := by rw [← hNL, upT_e]
  have N6 : upT NL 6 (n6 (cel xs N)) 6 = n6 (cel xs N) := upT_e
  obtain ⟨hO', vO, DO, cO, gO, qO, kO, pO, zO, yO, eO⟩ := t6_all (fv := fv) (d := d) (n := upT NL 6 (n6 (cel xs N))) (by rw [N6]; omega) hN ((upT_o (by decide)).trans E1) ((upT_o (by decide)).trans E4) ((upT_o (by decide)).trans E5) (n6 (cel xs N)) 0 hM vL lL DL (upT cL 6 0) mL mF none none none none (by rw [N6]; omega) gM upT_e (by omega)
  have C6 : cO 6 = n6 (cel xs N) := qO.trans N6
  have kO' : ∀ t', t' ≠ 6 → cO t' = cL t' := fun t' h => (kO t' h).trans (upT_o h)
  have kL' : ∀ t', t' ≠ 5 → cL t' = cJ t' := fun t' h => (kL t' h).trans (upT_o h)
  have kJ' : ∀ t', t' ≠ 4 → cJ t' = cH t' := fun t' h => (kJ t' h).trans (upT_o h)
  have kH' : ∀ t', t' ≠ 3 → cH t' = cF t' := fun t' h => (kH t' h).trans (upT_o h)
  have C5 : cO 5 = n5 (cel xs N) := (kO' 5 (by decide)).trans qL
  have C4 : cO 4 = n4 (cel xs N) := (kO' 4 (by decide)).trans ((kL' 4 (by decide)).trans qJ)
  have C3 : cO 3 = n3 (cel xs N) := (kO' 3 (by decide)).trans ((kL' 3 (by decide)).trans ((kJ' 3 (by decide)).trans qH))
  have C2 : cO 2 = n2 (cel xs N) := (kO' 2 (by decide)).trans ((kL' 2 (by decide)).trans ((kJ' 2 (by decide)).trans ((kH' 2 (by decide)).trans qF2)))
  have C1 : cO 1 = n1 (cel xs N) := (kO' 1 (by decide)).trans ((kL' 1 (by decide)).trans ((kJ' 1 (by decide)).trans ((kH' 1 (by decide)).trans qF1)))
  have hT : itr (fun k l => tx6 (cel xs N) l k) 0 (n6 (cel xs N)) lL = TXT (cel xs N) := by
    unfold TXT
    rw [← hlL, ← hlJ, ← hlH, ellF, ← hlC, elA]
  have gP := LB_cong (c' := nW (cel xs N)) (n' := nW (cel xs N)) gO (fun t h1 h6 => by
    rcases t with _ | _ | _ | _ | _ | _ | _ | t
    · omega
    · exact C1.trans nW1.symm
    · exact C2.trans nW2.symm
    · exact C3.trans nW3.symm
    · exact C4.trans nW4.symm
    · exact C5.trans nW5.symm
    · exact C6.trans nW6.symm
    · omega) (fun t h1 h6 => by
    rcases t with _ | _ | _ | _ | _ | _ | _ | t
    · omega
    · exact ((upT_o (by decide)).trans E1).trans nW1.symm
    · exact ((upT_o (by decide)).trans E2).trans nW2.symm
    · exact ((upT_o (by decide)).trans E3).trans nW3.symm
    · exact ((upT_o (by decide)).trans E4).trans nW4.symm
    · exact ((upT_o (by decide)).trans E5).trans nW5.symm
    · exact upT_e.trans nW6.symm
    · omega)
  rw [hT] at gP pO
  refine ⟨hO', vO, _, DO, s1.trans (eC.trans (s2.trans (eF.trans (s3.trans (eH.trans (s4.trans (eJ.trans (s5.trans (eL.trans (s6.trans eO)))))))))), gP, by omega, Nat.le_of_lt (lt_of gP.2.2.2.1.2), by omega, by omega⟩
end ST10
