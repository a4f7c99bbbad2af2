/-! PURE: the stack is read by no answer; the digest. -/
section PURE11
variable {Q A A1 A' : Mem} {M M' : Mm} {n fb : Nat → Nat} {p k b c q f j B m : Nat} {v w i x y len : Int32}
theorem eq_wh (h : eqA A A') : whL Q A' i = whL Q A i := by
  unfold whL
  rw [h.1 3 (by decide) (by decide)]
theorem eq_fr (h : eqA A A') : frL Q A' i = frL Q A i := by
  have e : (fun c (_ : Unit) => frS Q A' i c) = fun c (_ : Unit) => frS Q A i c := by
    funext c _
    unfold frS
    rw [h.2 3 (by decide), h.1 4 (by decide) (by decide)]
  unfold frL
  rw [eq_wh h, e]
theorem eq_ca (h : eqA A A') : caL Q A' i = caL Q A i := by
  have e : caS A' i = caS A i := by
    funext c s
    unfold caS
    rw [h.1 4 (by decide) (by decide)]
  unfold caL
  rw [e]
theorem eq_li (h : eqA A A') : liL A' x y = liL A x y := by
  have e : liS A' = liS A := by
    funext c s
    unfold liS
    rw [h.1 1 (by decide) (by decide)]
  unfold liL
  rw [e]
theorem eq_lb (h : eqA A A') : lbL Q A' i = lbL Q A i := eq_li h
theorem eq_da (h : eqA A A') : daL Q A' i = daL Q A i := by
  unfold daL
  rw [eq_lb h]
theorem eq_db (h : eqA A A') : dbL Q A' = dbL Q A := by
  have e : dbS Q A' = dbS Q A := by
    funext c s
    unfold dbS
    rw [eq_da h]
  unfold dbL
  rw [e]
theorem eq_ad (h : eqA A A') : adL Q A' = adL Q A := by
  unfold adL
  rw [h.1 1 (by decide) (by decide)]
theorem eq_pl (h : eqA A A') : plL Q A' = plL Q A := by
  have e : plS Q A' = plS Q A := by
    funext c s
    unfold plS
    rw [eq_wh h]
  unfold plL
  rw [e]
theorem eq_ct (h : eqA A A') (hj : j < 14) : ctL Q A' len j = ctL Q A len j := by
  have e0 := h.2 0 (by decide)
  have e1 := h.2 1 (by decide)
  have e2 := h.2 2 (by decide)
  rcases j with _ | _ | _ | _ | _ | _ | _ | _ | _ | _ | _ | _ | _ | _ | j <;> first | (simp only [ctL, e0, e1, e2, eq_li h, eq_ad h, eq_pl h, eq_db h]; done) | omega
theorem eq_pn (h : eqA A A') (hj : j < 7) : pnL Q A' i j = pnL Q A i j := by
  have e1 := h.1 1 (by decide) (by decide)
  have e2 := h.1 2 (by decide) (by decide)
  rcases j with _ | _ | _ | _ | _ | _ | _ | j <;> first | (simp only [pnL, e1, e2, eq_wh h, eq_li h, eq_ca h, eq_fr h]; done) | omega
theorem eq_by (h : eqA A A') (hj : j < 5) : byL Q A' i j = byL Q A i j := by
  rcases j with _ | _ | _ | _ | _ | j <;> first | (simp only [byL, eq_lb h, eq_da h]; done) | omega
theorem eq_fk (h : eqA A A') : fkL Q A' i = fkL Q A i := by
  funext j
  rcases j with _ | _ | _ | _ | j
  · show ca 3 (A' 7) i = _
    rw [h.1 7 (by decide) (by decide)]; rfl
  · rfl
  · rfl
  · show ca 3 (A' 8) i = _
    rw [h.1 8 (by decide) (by decide)]; rfl
  · rfl
theorem eq_cr (hI : INV Q A M n fb) (h : eqA A A') (hc : c < n 4) : crL Q A' (nI c) = crL Q A (nI c) := by
  funext j
  rcases j with _ | _ | _ | _ | _ | _ | j
  · show ca 3 (A' 4) _ = _
    rw [h.1 4 (by decide) (by decide)]; rfl
  · rfl
  · rfl
  · show ca 3 (A' 5) _ = _
    rw [h.1 5 (by decide) (by decide)]; rfl
  · exact (go_eq (CX_eq h hI.1) hc).1.trans (go_eq hI.1 hc).1.symm
  · show ca 3 (A' 6) _ = _
    rw [h.1 6 (by decide) (by decide)]; rfl
  · rfl
theorem eq_pi (h : eqA A A') : piL Q A' i = piL Q A i := by
  have e : ∀ x, paL Q A' x = paL Q A x := by
    intro x
    have e : paS Q A' x = paS Q A x := by
      funext c s
      unfold paS
      rw [eq_wh h, h.1 1 (by decide) (by decide)]
    unfold paL
    rw [e]
  have e2 : (fun k (_ : Unit) => piS Q A' i k) = fun k (_ : Unit) => piS Q A i k := by
    funext k _
    unfold piS
    rw [eq_wh h, e]
  unfold piL
  rw [e2]
theorem eq_me (h : eqA A A') : meL Q A' = meL Q A := by
  unfold meL
  rw [eq_pl h, eq_ad h]
theorem eqA_s (h : eqA A A') : eqA A' A := ⟨fun k h0 h9 => (h.1 k h0 h9).symm, fun j h4 => (h.2 j h4).symm⟩
/-- the digest's own: its word, and the state but for the stack -/
theorem dg_eq (hI : INV Q A M n fb) (h : eqA A A') : (dgL Q A' len).1 = (dgL Q A len).1 ∧ eqA A (dgL Q A' len).2 := by
  have n1 := hI.1.1.2.1.1
  have n2 := hI.1.1.2.1.2.1
  have n4 := hI.1.1.2.1.2.2.2.2.1
  have n5 := hI.1.1.2.1.2.2.2.2.2.1
  obtain ⟨q0, q1, -, q3, q4, -⟩ := hI.1.1.1
  unfold dgL
  rw [q0, q1, q3, q4, itI_0 (by omega), itI_0 (by omega), itI_0 (by omega), itI_0 (by omega), itI_0 (by omega), itI_0 (by omega), itI_0 (by omega), itI_0 (by omega)]
  have key : ∀ {f : Int32 → Int64 × Mem → Int64 × Mem} {m : Nat}, (∀ k, k < m → ∀ (w : Int64) (B B' : Mem), eqA A B → eqA A B' → (f (nI k) (w, B)).1 = (f (nI k) (w, B')).1 ∧ eqA A (f (nI k) (w, B)).2) → ∀ s s' : Int64 × Mem, s.1 = s'.1 → eqA A s.2 → eqA A s'.2 → (itr (fun k => f (nI k)) 0 m s).1 = (itr (fun k => f (nI k)) 0 m s').1 ∧ eqA A (itr (fun k => f (nI k)) 0 m s).2 ∧ eqA A (itr (fun k => f (nI k)) 0 m s').2 := by
    intro f m st s s' h1 h2 h3
    refine itr_sim (P := fun s s' : Int64 × Mem => s.1 = s'.1 ∧ eqA A s.2 ∧ eqA A s'.2) (m := m) (fun k a b hk hP => ?_) m 0 s s' (by omega) ⟨h1, h2, h3⟩
    obtain ⟨w, B⟩ := a
    obtain ⟨w', B'⟩ := b
    obtain ⟨p1, p2, p3⟩ := hP
    dsimp only at p1 p2 p3
    subst p1
    exact ⟨(st k hk w B B' p2 p3).1, (st k hk w B B' p2 p3).2, (st k hk w B' B p3 p2).2⟩
  have a0 : dgs 839 [ctL Q A' len 0, ctL Q A' len 1, ctL Q A' len 2, ctL Q A' len 3, ctL Q A' len 4, ctL Q A' len 5, ctL Q A' len 6, ctL Q A' len 7, ctL Q A' len 8, ctL Q A' len 9, ctL Q A' len 10, ctL Q A' len 11, ctL Q A' len 12, ctL Q A' len 13] = dgs 839 [ctL Q A len 0, ctL Q A len 1, ctL Q A len 2, ctL Q A len 3, ctL Q A len 4, ctL Q A len 5, ctL Q A len 6, ctL Q A len 7, ctL Q A len 8, ctL Q A len 9, ctL Q A len 10, ctL Q A len 11, ctL Q A len 12, ctL Q A len 13] := by
    rw [eq_ct h (show 0 < 14 by decide), eq_ct h (show 1 < 14 by decide), eq_ct h (show 2 < 14 by decide), eq_ct h (show 3 < 14 by decide), eq_ct h (show 4 < 14 by decide), eq_ct h (show 5 < 14 by decide), eq_ct h (show 6 < 14 by decide), eq_ct h (show 7 < 14 by decide), eq_ct h (show 8 < 14 by decide), eq_ct h (show 9 < 14 by decide), eq_ct h (show 10 < 14 by decide), eq_ct h (show 11 < 14 by decide), eq_ct h (show 12 < 14 by decide), eq_ct h (show 13 < 14 by decide)]
  rw [a0]
  generalize dgs 839 [ctL Q A len 0, ctL Q A len 1, ctL Q A len 2, ctL Q A len 3, ctL Q A len 4, ctL Q A len 5, ctL Q A len 6, ctL Q A len 7, ctL Q A len 8, ctL Q A len 9, ctL Q A len 10, ctL Q A len 11, ctL Q A len 12, ctL Q A len 13] = w0
  have two : ∀ {B B' : Mem}, eqA A B → eqA A B' → eqA B B' := fun h h' => eqA_t (eqA_s h) h'
  have k1 := key (f := dgP Q) (m := n 2) (fun k _ w B B' hB hB' => ⟨by unfold dgP; dsimp only; rw [eq_pn (two hB' hB) (show 0 < 7 by decide), eq_pn (two hB' hB) (show 1 < 7 by decide), eq_pn (two hB' hB) (show 2 < 7 by decide), eq_pn (two hB' hB) (show 3 < 7 by decide), eq_pn (two hB' hB) (show 4 < 7 by decide), eq_pn (two hB' hB) (show 5 < 7 by decide), eq_pn (two hB' hB) (show 6 < 7 by decide)], hB⟩) (w0, A') (w0, A) rfl h eqA_r
  have k2 := key (f := dgB Q) (m := n 1) (fun k _ w B B' hB hB' => ⟨by unfold dgB; dsimp only; rw [eq_by (two hB' hB) (show 0 < 5 by decide), eq_by (two hB' hB) (show 1 < 5 by decide), eq_by (two hB' hB) (show 2 < 5 by decide), eq_by (two hB' hB) (show 3 < 5 by decide), eq_by (two hB' hB) (show 4 < 5 by decide)], hB⟩) _ _ k1.1 k1.2.1 k1.2.2
  have k3 := key (f := dgK Q) (m := n 4) (fun k hk w B B' hB hB' => by
    have hIB := INV_eq hB hI
    have hIB' := INV_eq hB' hI
    have e1 := (go_eq hIB.1 hk).2
    have e2 := (go_eq hIB'.1 hk).2
    refine ⟨?_, eqA_t hB e1⟩
    unfold dgK
    dsimp only
    rw [eq_cr hIB' (two hB' hB) hk, eq_cr hIB' (two hB' (eqA_t hB e1)) hk, eq_cr hIB' e2 hk]) _ _ k2.1 k2.2.1 k2.2.2
  have k4 := key (f := dgF Q) (m := n 5) (fun k _ w B B' hB hB' => ⟨by unfold dgF; dsimp only; rw [eq_fk (two hB' hB)], hB⟩) _ _ k3.1 k3.2.1 k3.2.2
  exact ⟨k4.1, k4.2.1⟩
end PURE11
