/-! PURE: an hour and the cradles. -/
/-- what the law asks of a cradle's row before and after -/
def LC (r r' : Nat → Int32) : Prop := r' 0 - r 0 ≤ r 1 ∧ -(r' 0 - r 0) ≤ r 1 ∧ ¬ r' 4 - r 4 < 0 ∧ r' 4 - r 4 ≤ r 2 ∧ r' 3 = (if r' 0 = 0 then 20 else r 3) - (if r' 4 - r 4 ≤ 0 then 0 else 1) ∧ ((if r' 0 = 0 then 20 else r 3) = 0 → r' 4 - r 4 ≤ 0)
section PURE18
variable {Q A A1 A' Z Z' : Mem} {M M' M3 X : Mm} {n fb : Nat → Nat} {p k b c q f j B m a v : Nat} {w i x y len v' : Int32}
theorem mc_row (hV : vS X n) (hB : PB' X n B) (hB2 : B < 100000) (hn : n 2 ≤ 32) (hc : c < n 4) (h3 : ¬ nI c = X 0 0 3) {s z u : Nat} (hs : X 4 c 1 = nI s) (hs2 : s ≤ 9) (hz : X 4 c 2 = nI z) (hz1 : 1 ≤ z) (hz2 : z ≤ 60) (hu : X 4 c 3 = nI u) (hu2 : u ≤ 20) : LC (X 4 c) (sMc n c X 4 c) := by
  obtain ⟨t, ht, ht2⟩ : ∃ t, sGl X n c = nI t ∧ t < n 2 := ⟨_, (sGl_I (by omega) hV hc).1, (sGl_I (by omega) hV hc).2⟩
  obtain ⟨a, ha, ha2⟩ : ∃ a, X 4 c 0 = nI a ∧ a < n 2 := ⟨_, (hV.2.2.1 c hc).1, (hV.2.2.1 c hc).2⟩
  obtain ⟨a', hw, ha', d1, d2⟩ : ∃ a', sWk (nI t) s (nI a) = nI a' ∧ a' < n 2 ∧ a' ≤ a + s ∧ a ≤ a' + s := ⟨_, wk_eq (a := a) (t := t) (by omega) (by omega) s (by omega), by split <;> omega, by split <;> omega, by split <;> omega⟩
  have hmw : sMw X n c = um X 4 c 0 (nI a') := by
    unfold sMw
    rw [hs, nI_clamp (by omega), ht, ha, hw]
  have hmc : sMc n c X = sWd (sWe (um X 4 c 0 (nI a')) c) c a' := by
    unfold sMc sMx
    rw [if_neg h3, hmw, um_e, nI_clamp (by omega)]
  rw [hmc]
  have e0 : sWe (um X 4 c 0 (nI a')) c 4 c 0 = nI a' := by
    unfold sWe
    split
    · rw [um_c (by decide), um_e]
    · rw [um_e]
  have e2 : sWe (um X 4 c 0 (nI a')) c 4 c 2 = nI z := by
    unfold sWe
    split
    · rw [um_c (by decide), um_c (by decide)]; exact hz
    · rw [um_c (by decide)]; exact hz
  have e4 : sWe (um X 4 c 0 (nI a')) c 4 c 4 = X 4 c 4 := by
    unfold sWe
    split
    · rw [um_c (by decide), um_c (by decide)]
    · rw [um_c (by decide)]
  have er : sWe (um X 4 c 0 (nI a')) c 2 = X 2 := by
    unfold sWe
    split
    · rw [um_t (by decide), um_t (by decide)]
    · rw [um_t (by decide)]
  obtain ⟨y, hy, hy2, e3⟩ : ∃ y, (if nI a' = 0 then (20 : Int32) else X 4 c 3) = nI y ∧ y ≤ 20 ∧ sWe (um X 4 c 0 (nI a')) c 4 c 3 = nI y := by
    by_cases q : nI a' = 0
    · refine ⟨20, if_pos q, Nat.le_refl _, ?_⟩
      unfold sWe
      rw [if_pos (by rw [um_e]; exact q), um_e]
      rfl
    · refine ⟨u, by rw [if_neg q]; exact hu, hu2, ?_⟩
      unfold sWe
      rw [if_neg (by rw [um_e]; exact q), um_c (by decide)]
      exact hu
  have near : nI a' - nI a ≤ nI s ∧ -(nI a' - nI a) ≤ nI s := by
    have h1 := pk_sub_toInt (a := a') (b := a) (by omega) (by omega)
    have h2 := nI_toInt (n := s) (by omega)
    refine ⟨by rw [Int32.le_iff_toInt_le, h1, h2]; omega, ?_⟩
    rw [Int32.neg_sub, Int32.le_iff_toInt_le, pk_sub_toInt (a := a) (b := a') (by omega) (by omega), h2]
    omega
  generalize sWe (um X 4 c 0 (nI a')) c = E at *
  have still : sWd E c a' = E → LC (X 4 c) (sWd E c a' 4 c) := fun h => by
    unfold LC
    rw [h, e0, e3, e4, ha, hs, hz, hy, Int32.sub_self, if_pos (Int32.le_refl _), Int32.sub_zero]
    exact ⟨near.1, near.2, by decide, nI_pos' (by omega), rfl, fun _ => Int32.le_refl _⟩
  by_cases c1 : E 4 c 3 = 0
  · exact still (by unfold sWd; rw [if_pos c1])
  by_cases c2 : E 2 a' 3 = 1
  · exact still (by unfold sWd; rw [if_neg c1, if_pos c2])
  by_cases c3 : E 2 a' 1 = 0
  · exact still (by unfold sWd; rw [if_neg c1, if_neg c2, if_pos c3])
  obtain ⟨⟨x, hx, hxB⟩, -⟩ := hB a' ha'
  have hE1 : E 2 a' 1 = nI x := by rw [er]; exact hx
  have hx0 : x ≠ 0 := fun q => c3 (by rw [hE1, q]; rfl)
  have hy0 : y ≠ 0 := fun q => c1 (by rw [e3, q]; rfl)
  obtain ⟨g, hg, hg1, hg2⟩ : ∃ g, sWo E c a' = nI g ∧ 1 ≤ g ∧ g ≤ z := by
    unfold sWo
    rw [e2, hE1]
    by_cases q : z ≤ x
    · exact ⟨z, if_pos (nI_le q (by omega)), hz1, Nat.le_refl _⟩
    · exact ⟨x, if_neg (nI_ge (by omega) (by omega)), by omega, by omega⟩
  have hWd : sWd E c a' = sWc E c a' := by
    unfold sWd
    rw [if_neg c1, if_neg c2, if_neg c3]
  have r0 : sWc E c a' 4 c 0 = nI a' := by
    unfold sWc sWb sWa
    rw [um_c (by decide), um_c (by decide), um_t (by decide)]
    exact e0
  have r4 : sWc E c a' 4 c 4 = X 4 c 4 + nI g := by
    unfold sWc sWb sWa
    rw [um_c (by decide), um_e, um_t (by decide), e4, hg]
  have r3 : sWc E c a' 4 c 3 = nI y - 1 := by
    unfold sWc sWb sWa
    rw [um_e, um_c (by decide), um_t (by decide), e3]
  have hd : X 4 c 4 + nI g - X 4 c 4 = nI g := by rw [Int32.add_comm, Int32.add_sub_cancel]
  unfold LC
  rw [hWd, r0, r3, r4, ha, hs, hz, hy, hd, if_neg (nI_nle (by omega) (by omega))]
  exact ⟨near.1, near.2, nI_pos (by omega), nI_le hg2 (by omega), rfl, fun h => absurd ((nI_eq (b := 0) (by omega) (by decide)).mp h) hy0⟩
end PURE18
