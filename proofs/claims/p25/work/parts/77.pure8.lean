/-! PURE: cradles, panes, an hour. -/
/-- water -/
def WI (M : Mm) (n : Nat → Nat) : Prop := ∀ c, c < n 4 → ∃ y, M 4 c 3 = nI y ∧ y ≤ 20
/-- cracks -/
def KI (M : Mm) (n : Nat → Nat) : Prop := ∀ p, p < n 2 → ∃ z t, M 2 p 2 = nI z ∧ M 1 (M 2 p 0).toNatClampNeg 1 = nI t ∧ 0 < t ∧ t ≤ 9 ∧ z < 20 * t
section PURE8
variable {Q A A1 A' : Mem} {M M' : Mm} {n fb : Nat → Nat} {p k b c q f j B : Nat} {v w i x y : Int32}
theorem wk_eq {a t : Nat} (ha : a < 1000) (ht : t < 1000) : ∀ s, s < 1000 → sWk (nI t) s (nI a) = nI (if t ≤ a then max t (a - s) else min t (a + s)) := by
  intro s
  induction s generalizing a with
  | zero =>
    intro _
    show nI a = _
    congr 1
    split <;> omega
  | succ s ih =>
    intro hs
    unfold sWk
    by_cases c1 : nI a = nI t
    · have c1' := (nI_eq (by omega) (by omega)).mp c1
      rw [if_pos c1]
      congr 1
      split <;> omega
    · have c1' : ¬ a = t := fun h => c1 (by rw [h])
      rw [if_neg c1]
      by_cases c2 : nI t ≤ nI a
      · have c2' := (nI_leI (by omega) (by omega)).mp c2
        rw [if_pos c2, show a = (a - 1) + 1 by omega, pk_m1, ih (by omega) (by omega)]
        congr 1
        split <;> first | omega | (split <;> omega)
      · have c2' : ¬ t ≤ a := fun h => c2 (nI_le h (by omega))
        rw [if_neg c2, nI_1, ih (by omega) (by omega)]
        congr 1
        split <;> first | omega | (split <;> omega)
theorem st_eq {a t s : Nat} (ha : a < 1000) (ht : t < 1000) (hs : s < 1000) : stL (nI a) (nI t) (nI s) = sWk (nI t) s (nI a) := by
  rw [wk_eq ha ht s hs]
  unfold stL mxL mnL
  have e1 : (nI a - nI s).toInt = (a : Int) - s := pk_sub_toInt (by omega) (by omega)
  have e2 : nI a + nI s = nI (a + s) := nI_add a s
  have et : (nI t).toInt = (t : Int) := nI_toInt (by omega)
  by_cases c : t ≤ a
  · rw [if_pos (nI_le c (by omega)), if_pos c]
    by_cases c2 : nI t < nI a - nI s
    · rw [if_pos c2]
      rw [Int32.lt_iff_toInt_lt, e1, et] at c2
      rw [pk_sub (by omega)]
      congr 1
      omega
    · rw [if_neg c2]
      rw [Int32.lt_iff_toInt_lt, e1, et] at c2
      congr 1
      omega
  · rw [if_neg (nI_ge (by omega) (by omega)), if_neg c, e2]
    by_cases c2 : nI (a + s) < nI t
    · rw [if_pos c2]
      have := (nI_ltI (by omega) (by omega)).mp c2
      congr 1
      omega
    · rw [if_neg c2]
      have : ¬ a + s < t := fun h => c2 (nI_lt h (by omega))
      congr 1
      omega
theorem WI_t {t r : Nat} (hW : WI M n) (h : 4 ≠ t) : WI (um M t r j v) n := by
  unfold WI
  rw [um_t h]
  exact hW
theorem WI_4 {z : Nat} (hW : WI M n) (hz : z ≤ 20) : WI (um M 4 c 3 (nI z)) n := by
  intro c' hc'
  rw [um_x]
  split
  · exact ⟨z, rfl, hz⟩
  · exact hW c' hc'
theorem WI_j (hW : WI M n) (hj : 3 ≠ j) : WI (um M 4 c j v) n := by
  intro c' hc'
  rw [um_c hj]
  exact hW c' hc'
/-- a cradle's turn -/
theorem mc_eq (hC : CX Q A M n fb B) (hR : SR M n) (hW : WI M n) (hc : c < n 4) (hB3 : B < 100000) : CX Q (mkS Q (nI c) A) (sMc n c M) n fb B ∧ PLs M (sMc n c M) ∧ WI (sMc n c M) n ∧ mkS Q (nI c) A 0 2 = A 0 2 ∧ sMc n c M 0 = M 0 := by
  have n2 := hC.1.2.1.2.1
  have n4 := hC.1.2.1.2.2.2.2.1
  have hV := hC.2.2.2.2.2.2.1
  unfold mkS sMc
  rw [hC.2.1.1.2.2]
  by_cases c0 : nI c = M 0 0 3
  · rw [if_pos c0, if_pos c0]
    exact ⟨hC, PLs_r, hW, rfl, rfl⟩
  rw [if_neg c0, if_neg c0]
  obtain ⟨g1, g2⟩ := go_eq hC hc
  obtain ⟨q10, q11⟩ := hC.1.2.2.2.2.2.1 c hc
  obtain ⟨s, wa, hs, hs2, hwa, hwa2⟩ := hR.2.1 c hc
  have hx := hV.2.2.1 c hc
  have hto := sGl_I (c := c) (by omega) hV hc
  have hC1 := CX_eq g2 hC
  have e4 : ca 3 (A 4) (nI c) = M 4 c 0 := (ca_n (by omega) (by decide)).trans (hC.2.1.2.2.1 c hc).1
  have e10 : ca 3 (Q 10) (nI c) = M 4 c 1 := (ca_n (by omega) (by decide)).trans q10
  have hsc : (M 4 c 1).toNatClampNeg = s := by rw [hs, nI_clamp (by omega)]
  have hP : mcP Q A (nI c) = sWk (sGl M n c) (M 4 c 1).toNatClampNeg (M 4 c 0) := by
    unfold mcP
    rw [e4, e10, g1, hsc, hs, hx.1, hto.1]
    have := hx.2
    have := hto.2
    exact st_eq (by omega) (by omega) (by omega)
  have hmw : sMw M n c = um M 4 c 0 (mcP Q A (nI c)) := by rw [hP]; rfl
  obtain ⟨hpx, hV1⟩ := (sMc_I (c := c) (by omega) hV hc).2 c0
  rw [hmw, um_e] at hpx
  have hmx : sMx M n c = sWd (sWe (um M 4 c 0 (mcP Q A (nI c))) c) c (mcP Q A (nI c)).toNatClampNeg := by
    unfold sMx
    rw [hmw, um_e]
  rw [hmw] at hV1
  have hmcl : mcL Q A (nI c) = mcV Q (mcA Q A (nI c)) (nI c) (mcP Q A (nI c)) := rfl
  rw [hmx, hmcl]
  unfold mcA
  revert g2 hC1
  generalize (goL Q A (nI c)).2 = A1
  intro g2 hC1
  revert hpx hV1
  generalize mcP Q A (nI c) = P
  intro hpx hV1
  -- behind the walk
  have hpl1 : PLs M (um M 4 c 0 P) := PLs_4 (by decide) (by decide)
  have hCw : CX Q (sm A1 4 c P) (um M 4 c 0 P) n fb B := CX_s hpl1 hC (RS_4 hC1.2.1) (RZ_r hC1.2.2.1 (by decide) (by decide)) (PG_t hC.2.2.2.1 (by decide)) (PB_t hC.2.2.2.2.1 (by decide)) hC.2.2.2.2.2.1 hV1
  have hWw : WI (um M 4 c 0 P) n := WI_j hW (by decide)
  -- behind the water
  have hst : ∃ A2 M2, (if P = 0 then sp (sp A1 4 3 (nI c) P) 5 3 (nI c) 20 else sp A1 4 3 (nI c) P) = A2 ∧ sWe (um M 4 c 0 P) c = M2 ∧ CX Q A2 M2 n fb B ∧ PLs M M2 ∧ WI M2 n ∧ A2 0 2 = A 0 2 ∧ M2 0 = M 0 := by
    refine ⟨_, _, rfl, rfl, ?_⟩
    unfold sWe
    rw [um_e, sp_n (by omega) (by decide), sp_n (by omega) (by decide)]
    by_cases c1 : P = 0
    · rw [if_pos c1, if_pos c1]
      have hpl2 : PLs M (um (um M 4 c 0 P) 4 c 3 20) := PLs_t hpl1 (PLs_4 (by decide) (by decide))
      exact ⟨CX_s hpl2 hC (RS_5 hCw.2.1) (RZ_r hCw.2.2.1 (by decide) (by decide)) (PG_t hCw.2.2.2.1 (by decide)) (PB_t hCw.2.2.2.2.1 (by decide)) hC.2.2.2.2.2.1 (vS_4 hV1 (by decide)), hpl2, WI_4 (z := 20) hWw (Nat.le_refl _), by rw [sm_ne (by decide), sm_ne (by decide)]; exact g2.2 2 (by decide), (um_t (by decide)).trans (um_t (by decide))⟩
    · rw [if_neg c1, if_neg c1]
      exact ⟨hCw, hpl1, hWw, by rw [sm_ne (by decide)]; exact g2.2 2 (by decide), um_t (by decide)⟩
  obtain ⟨A2, M2, ea, em, hC2, hp2, hW2, ha2, hm2⟩ := hst
  rw [ea, em]
  obtain ⟨y, hy, hy2⟩ := hW2 c hc
  obtain ⟨⟨x, hx1, hx2⟩, hgo⟩ := hC2.2.2.2.2.1 _ hpx.2
  have plt := hpx.2
  have r5 : ca 3 (A2 5) (nI c) = nI y := ((ca_n (by omega) (by decide)).trans (hC2.2.1.2.2.1 c hc).2.1).trans hy
  have r1 : ca 40 (A2 1) P = nI x := ((ca_vx hpx (by omega) (by decide)).trans (hC2.2.1.2.1 _ plt).1).trans hx1
  have rw' : whL Q A2 P = decide (M2 2 P.toNatClampNeg 3 = 0) := by
    have h := whL_k hC2.1 hC2.2.1 plt
    rw [← hpx.1] at h
    exact h
  unfold mcV sWd
  rw [r5, r1, rw', hy, hx1]
  by_cases c1 : y = 0
  · rw [if_pos (show nI y ≤ 0 by rw [c1]; decide), if_pos (show nI y = 0 by rw [c1]; rfl)]
    exact ⟨hC2, hp2, hW2, ha2, hm2⟩
  rw [if_neg (nI_nle (by omega) (by omega)), if_neg (nI_ne0 (by omega) (by omega))]
  by_cases c2 : x = 0
  · rw [if_pos (show nI x ≤ 0 by rw [c2]; decide)]
    have : (if M2 2 P.toNatClampNeg 3 = 1 then M2 else if nI x = 0 then M2 else sWc M2 c P.toNatClampNeg) = M2 := by
      rw [c2, if_pos (show nI 0 = 0 from rfl)]
      split <;> rfl
    rw [this]
    exact ⟨hC2, hp2, hW2, ha2, hm2⟩
  rw [if_neg (nI_nle (by omega) (by omega))]
  rcases hgo with hgo | ⟨hgo, h0⟩
  · rw [if_neg (by rw [decide_eq_true hgo]; decide), if_neg (by rw [hgo]; decide), if_neg (nI_ne0 (by omega) (by omega))]
    have r6 : ca 3 (A2 6) (nI c) = M2 4 c 4 := (ca_n (by omega) (by decide)).trans (hC2.2.1.2.2.1 c hc).2.2
    have r11 : ca 3 (Q 11) (nI c) = M2 4 c 2 := ((ca_n (by omega) (by decide)).trans q11).trans (hp2.2.2.2.2.1 c).2.symm
    have hw2 : M2 4 c 2 = nI wa := (hp2.2.2.2.2.1 c).2.trans hwa
    have hoff : mnL (nI x) (M2 4 c 2) = sWo M2 c P.toNatClampNeg := by
      unfold mnL sWo
      rw [hx1, hw2]
      by_cases d1 : wa < x
      · rw [if_pos (nI_lt d1 (by omega)), if_pos (nI_le (by omega) (by omega))]
      · rw [if_neg (nI_nlt (by omega) (by omega))]
        by_cases d2 : wa ≤ x
        · rw [if_pos (nI_le d2 (by omega)), show wa = x by omega]
        · rw [if_neg (nI_ge (by omega) (by omega))]
    have hov : ∃ of', sWo M2 c P.toNatClampNeg = nI of' ∧ of' ≤ x := by
      unfold sWo
      rw [hx1, hw2]
      by_cases d2 : wa ≤ x
      · exact ⟨wa, by rw [if_pos (nI_le d2 (by omega))], d2⟩
      · exact ⟨x, by rw [if_neg (nI_ge (by omega) (by omega))], Nat.le_refl _⟩
    obtain ⟨of', ho1, ho2⟩ := hov
    unfold mcW
    rw [r1, r11, hoff, r6, r5]
    have e2 : ∀ u, sp A2 1 40 P u = sm A2 1 P.toNatClampNeg u := fun u => by
      have h := sp_n (A := A2) (a := 1) (n := 40) (k := P.toNatClampNeg) (v := u) (by omega) (by decide)
      rw [← hpx.1] at h
      exact h
    rw [e2, sp_n (by omega) (by decide), sp_n (by omega) (by decide)]
    have f1 : sWa M2 c P.toNatClampNeg = um M2 2 P.toNatClampNeg 1 (nI x - sWo M2 c P.toNatClampNeg) := by unfold sWa; rw [hx1]
    have f2 : sWb M2 c P.toNatClampNeg = um (sWa M2 c P.toNatClampNeg) 4 c 4 (M2 4 c 4 + sWo M2 c P.toNatClampNeg) := by
      unfold sWb
      rw [show sWa M2 c P.toNatClampNeg 4 = M2 4 from um_t (by decide)]
    have f3 : sWc M2 c P.toNatClampNeg = um (sWb M2 c P.toNatClampNeg) 4 c 3 (nI y - 1) := by
      unfold sWc
      rw [show sWb M2 c P.toNatClampNeg 4 c 3 = M2 4 c 3 by rw [f2, um_c (by decide), f1, um_t (by decide)], hy]
    rw [f3, f2, f1]
    have hpl3 : PLs M (um (um (um M2 2 P.toNatClampNeg 1 (nI x - sWo M2 c P.toNatClampNeg)) 4 c 4 (M2 4 c 4 + sWo M2 c P.toNatClampNeg)) 4 c 3 (nI y - 1)) := PLs_t hp2 (PLs_t (PLs_2 (by decide)) (PLs_t (PLs_4 (by decide) (by decide)) (PLs_4 (by decide) (by decide))))
    have hB' : PB' (um M2 2 P.toNatClampNeg 1 (nI x - sWo M2 c P.toNatClampNeg)) n B := by
      rw [ho1, pk_sub ho2]
      exact PB_2 hC2.2.2.2.2.1 (by omega) hgo
    refine ⟨CX_s hpl3 hC (RS_5 (RS_6 (RS_1 hC2.2.1))) (RZ_r (RZ_r (RZ_1 hC2.2.2.1 plt) (by decide) (by decide)) (by decide) (by decide)) (PG_t (PG_t (PG_2 hC2.2.2.2.1 hgo) (by decide)) (by decide)) (PB_t (PB_t hB' (by decide)) (by decide)) hC.2.2.2.2.2.1 (vS_4 (vS_4 (vS_2 hC2.2.2.2.2.2.2.1 (by decide)) (by decide)) (by decide)), hpl3, ?_, by rw [sm_ne (by decide), sm_ne (by decide), sm_ne (by decide)]; exact ha2, ((um_t (by decide)).trans ((um_t (by decide)).trans (um_t (by decide)))).trans hm2⟩
    rw [show nI y - 1 = nI (y - 1) by rw [show y = (y - 1) + 1 by omega, nI_pred]; rfl]
    exact WI_4 (WI_j (WI_t hW2 (by decide)) (by decide)) (by omega)
  · rw [h0] at hx1
    exact absurd ((nI_eq (a := 0) (b := x) (by decide) (by omega)).mp hx1) (by omega)
end PURE8
