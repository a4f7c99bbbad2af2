/-! PURE: an hour as the law asks. -/
section PURE20
variable {Q A A1 A' Z Z' : Mem} {M M' M3 X : Mm} {n fb : Nat → Nat} {p k b c q f j B m a v : Nat} {w i x y len v' : Int32}
/-- an hour and its flocks and cradles -/
theorem hr_rows (hI : INV Q A M n fb) (h3 : M 0 0 3 = -1) (hw : WP M n) : (∀ q, q < n 5 → LF M n (M 5 q) (sPs M n 5 q)) ∧ ∀ c, c < n 4 → LC (M 4 c) (sPs M n 4 c) := by
  obtain ⟨A2, c2, pl2, w2, hf⟩ := hr_12 hI
  have k1 := KP_1 (M := M) (n := n)
  have k2 := KP_2 (M := sP1 M n) (n := n)
  have hM4 : sP2 (sP1 M n) n 4 = M 4 := k2.2.1.trans k1.2.1
  have hM0 : sP2 (sP1 M n) n 0 = M 0 := k2.2.2.trans k1.2.2.2
  have hR2 := SR_s pl2 hM0 hI.2.1
  have e4 : sPs M n 4 = sP3 (sP2 (sP1 M n) n) n 4 := (P5_k (by decide)).trans P4_k.1
  have e5 : sPs M n 5 = sP2 (sP1 M n) n 5 := ((P5_k (by decide)).trans P4_k.2.1).trans KP_3.2.1
  rw [e5]
  refine ⟨hf, ?_⟩
  rw [e4]
  clear hf e4 e5 k1 k2
  generalize sP2 (sP1 M n) n = M2 at *
  have n2 := c2.1.2.1.2.1
  have n3 := c2.1.2.1.2.2.2.1
  have n4 := c2.1.2.1.2.2.2.2.1
  have n5 := c2.1.2.1.2.2.2.2.2.1
  have s3 : (∃ A', CX Q A' (sP3 M2 n) n fb (1799 + 30 * n 3 + 20 * n 5) ∧ PLs M2 (sP3 M2 n) ∧ WI (sP3 M2 n) n ∧ sP3 M2 n 0 = M2 0) ∧ (∀ c, n 4 ≤ c → sP3 M2 n 4 c = M 4 c) ∧ ∀ c, c < n 4 → LC (M 4 c) (sP3 M2 n 4 c) := by
    unfold sP3
    refine itr_simI (P := fun k (_ : Unit) M' => (∃ A', CX Q A' M' n fb (1799 + 30 * n 3 + 20 * n 5) ∧ PLs M2 M' ∧ WI M' n ∧ M' 0 = M2 0) ∧ (∀ c, k ≤ c → M' 4 c = M 4 c) ∧ ∀ c, c < k → LC (M 4 c) (M' 4 c)) (f := fun _ u => u) (m := n 4) (fun k _ M' hk hP => ?_) (n 4) 0 () M2 (by omega) ⟨⟨A2, c2, PLs_r, w2, rfl⟩, fun c _ => by rw [hM4], fun c hc => absurd hc (Nat.not_lt_zero _)⟩
    obtain ⟨⟨A', p1, p2, p3, p4⟩, p5, p6⟩ := hP
    have hRk := SR_s p2 p4 hR2
    obtain ⟨g1, g2, g3, g4, g5⟩ := mc_eq (c := k) p1 hRk p3 hk (by omega)
    have hkc := KC_mc (M := M') (n := n) (c := k)
    refine ⟨⟨_, g1, PLs_t p2 g2, g3, g5.trans p4⟩, fun c hc => ?_, fun c hc => ?_⟩
    · rw [hkc.2.1 c (by omega)]
      exact p5 c (by omega)
    · by_cases e : c = k
      · subst e
        obtain ⟨s, u, hs, hs2, -⟩ := hRk.2.1 c hk
        obtain ⟨y, hy, hy2⟩ := p3 c hk
        obtain ⟨z, hz, hz1, hz2⟩ := hw c hk
        have hz' : M' 4 c 2 = nI z := by rw [p5 c (Nat.le_refl _)]; exact hz
        have hne : ¬ nI c = M' 0 0 3 := by
          rw [p4, hM0, h3]
          intro e
          have h1 : (-1 : Int32).toInt = -1 := by decide
          have := congrArg Int32.toInt e
          rw [nI_toInt (by omega), h1] at this
          omega
        have h := mc_row p1.2.2.2.2.2.2.1 p1.2.2.2.2.1 (by omega) n2 hk hne hs hs2 hz' hz1 hz2 hy hy2
        rw [p5 c (Nat.le_refl _)] at h
        exact h
      · rw [hkc.2.1 c e]
        exact p6 c (by omega)
  exact s3.2.2
theorem WP_s (h : PLs M M') (hw : WP M n) : WP M' n := fun c hc => by
  rw [(h.2.2.2.2.1 c).2]
  exact hw c hc
/-- where cradles stand, and head -/
theorem cr_row (hI : INV Q A M n fb) (hc : c < n 4) : (∃ a, crL Q A (nI c) 0 = nI a ∧ a < n 2) ∧ (∃ y, crL Q A (nI c) 3 = nI y ∧ y ≤ 20) ∧ (∃ t, crL Q A (nI c) 4 = nI t ∧ t < n 2) ∧ crL Q A (nI c) 0 = M 4 c 0 ∧ crL Q A (nI c) 1 = M 4 c 1 ∧ crL Q A (nI c) 2 = M 4 c 2 ∧ crL Q A (nI c) 3 = M 4 c 3 ∧ crL Q A (nI c) 5 = M 4 c 4 ∧ crL Q A (nI c) 4 = sGl M n c := by
  have n2 := hI.1.1.2.1.2.1
  have n4 := hI.1.1.2.1.2.2.2.2.1
  obtain ⟨a1, a2, a3⟩ := hI.1.2.1.2.2.1 c hc
  obtain ⟨b1, b2⟩ := hI.1.1.2.2.2.2.2.1 c hc
  have hV := hI.1.2.2.2.2.2.2.1
  have h0 : crL Q A (nI c) 0 = M 4 c 0 := by
    show ca 3 (A 4) (nI c) = _
    rw [ca_n (by omega) (by decide)]; exact a1
  have h1 : crL Q A (nI c) 1 = M 4 c 1 := by
    show ca 3 (Q 10) (nI c) = _
    rw [ca_n (by omega) (by decide)]; exact b1
  have h2 : crL Q A (nI c) 2 = M 4 c 2 := by
    show ca 3 (Q 11) (nI c) = _
    rw [ca_n (by omega) (by decide)]; exact b2
  have h3 : crL Q A (nI c) 3 = M 4 c 3 := by
    show ca 3 (A 5) (nI c) = _
    rw [ca_n (by omega) (by decide)]; exact a2
  have h5 : crL Q A (nI c) 5 = M 4 c 4 := by
    show ca 3 (A 6) (nI c) = _
    rw [ca_n (by omega) (by decide)]; exact a3
  have h4 : crL Q A (nI c) 4 = sGl M n c := (go_eq hI.1 hc).1
  refine ⟨?_, ?_, ?_, h0, h1, h2, h3, h5, h4⟩
  · rw [h0]
    exact ⟨_, (hV.2.2.1 c hc).1, (hV.2.2.1 c hc).2⟩
  · rw [h3]
    exact hI.2.2.1 c hc
  · rw [h4]
    exact ⟨_, (sGl_I (by omega) hV hc).1, (sGl_I (by omega) hV hc).2⟩
theorem fk_row (hI : INV Q A M n fb) (hf : f < n 5) : fkL Q A (nI f) 0 = M 5 f 0 ∧ fkL Q A (nI f) 3 = M 5 f 3 := by
  have n5 := hI.1.1.2.1.2.2.2.2.2.1
  obtain ⟨a1, a2⟩ := hI.1.2.1.2.2.2 f hf
  refine ⟨?_, ?_⟩
  · show ca 3 (A 7) (nI f) = _
    rw [ca_n (by omega) (by decide)]; exact a1
  · show ca 3 (A 8) (nI f) = _
    rw [ca_n (by omega) (by decide)]; exact a2
theorem pn_6 (hI : INV Q A M n fb) (hp : p < n 2) : pnL Q A (nI p) 6 = b01 (sFr M n (nI p)) := by
  show b01 (frL Q A (nI p)) = _
  rw [frL_k hI.1.1 hI.1.2.1 hI.1.2.2.2.2.2.2.1 hp]
end PURE20
