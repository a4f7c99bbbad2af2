/-! PURE: what is done to it; hours. -/
section PURE10
variable {Q A A1 A' : Mem} {M M' : Mm} {n fb : Nat → Nat} {p k b c q f j B m : Nat} {v w i x y : Int32}
theorem INV_eq (h : eqA A A') (hI : INV Q A M n fb) : INV Q A' M n fb := ⟨CX_eq h hI.1, hI.2⟩
theorem pl_eq (hI : INV Q A M n fb) : Q 0 1 - plL Q A = sGn M n ∧ plL Q A + sGn M n = nI (n 2) := by
  obtain ⟨⟨hP, hS, hZ, hG, -⟩, -⟩ := hI
  have n2 := hP.2.1.2.1
  have key : plL Q A + sGn M n = nI (n 2) := by
    unfold plL sGn
    rw [hP.1.2.1, itI_0 (by omega)]
    refine itr_simI (P := fun k (s g : Int32) => s + g = nI k) (m := n 2) (fun k s g hk h => ?_) (n 2) 0 0 0 (by omega) rfl
    unfold plS
    rw [whL_k hP hS hk]
    rcases hG k hk with h0 | ⟨h1, -⟩
    · rw [h0, decide_eq_true rfl, if_neg (show ¬ (true = false) by decide), Int32.add_zero, Int32.add_assoc, Int32.add_comm 1 g, ← Int32.add_assoc, h]
      exact nI_add k 1
    · rw [h1, decide_eq_false (by decide), if_pos rfl, ← Int32.add_assoc, h]
      exact nI_add k 1
  refine ⟨?_, key⟩
  rw [hP.1.2.1, ← key, Int32.add_comm, Int32.add_sub_cancel]
theorem um_id {t r : Nat} (h : M t r j = v) : um M t r j v = M := by
  subst h
  exact um_self
/-- wind -/
theorem INV_wind (hI : INV Q A M n fb) (h1 : -3 ≤ w.toInt) (h2 : w.toInt ≤ 3) : INV Q (sm A 0 1 w) (um M 0 0 1 w) n fb := by
  obtain ⟨⟨hP, ⟨g0, g1, g2, g3⟩, hZ, hG, hB, hB2, hV, hO⟩, ⟨r1, r2, r3, r4, -⟩, hW, hK⟩ := hI
  have hpl : PLs M (um M 0 0 1 w) := PLs_0
  refine ⟨⟨RP_s hpl hP, ⟨?_, ?_, ?_, ?_⟩, RZ_r hZ (by decide) (by decide), PG_t hG (by decide), PB_t hB (by decide), hB2, vS_0 hV, RO_s hpl hO⟩, ⟨?_, ?_, ?_, ?_, ?_⟩, WI_t hW (by decide), ?_⟩
  · rw [sm_x, sm_x, sm_x, if_neg (by decide), if_pos ⟨rfl, rfl⟩, if_neg (by decide), um_c (by decide), um_e, um_c (by decide)]
    exact ⟨g0.1, rfl, g0.2.2⟩
  · rw [sm_ne (show 1 ≠ 0 by decide), sm_ne (show 2 ≠ 0 by decide), sm_ne (show 3 ≠ 0 by decide), um_t (show 2 ≠ 0 by decide)]
    exact g1
  · rw [sm_ne (show 4 ≠ 0 by decide), sm_ne (show 5 ≠ 0 by decide), sm_ne (show 6 ≠ 0 by decide), um_t (show 4 ≠ 0 by decide)]
    exact g2
  · rw [sm_ne (show 7 ≠ 0 by decide), sm_ne (show 8 ≠ 0 by decide), um_t (show 5 ≠ 0 by decide)]
    exact g3
  · rw [um_t (show 3 ≠ 0 by decide)]; exact r1
  · rw [um_t (show 4 ≠ 0 by decide)]; exact r2
  · rw [um_t (show 5 ≠ 0 by decide)]; exact r3
  · rw [um_t (show 1 ≠ 0 by decide)]; exact r4
  · rw [um_e]; exact ⟨h1, h2⟩
  · unfold KI
    rw [um_t (show 2 ≠ 0 by decide), um_t (show 1 ≠ 0 by decide)]
    exact hK
theorem SR_t {t : Nat} (hR : SR M n) (h : PLs M M') (h0 : M' 0 = M 0) : SR M' n := SR_s h h0 hR
/-- carry -/
theorem INV_carry (hI : INV Q A M n fb) (hp : p < n 2) : INV Q (sm A 4 c (nI p)) (um M 4 c 0 (nI p)) n fb := by
  obtain ⟨⟨hP, hS, hZ, hG, hB, hB2, hV, hO⟩, hR, hW, hK⟩ := hI
  have n2 := hP.2.1.2.1
  have hpl : PLs M (um M 4 c 0 (nI p)) := PLs_4 (by decide) (by decide)
  refine ⟨⟨RP_s hpl hP, RS_4 hS, RZ_r hZ (by decide) (by decide), PG_t hG (by decide), PB_t hB (by decide), hB2, vS_40 hV (vx_nI hp (by omega)), RO_s hpl hO⟩, SR_s hpl (um_t (by decide)) hR, WI_j hW (by decide), ?_⟩
  unfold KI
  rw [um_t (show 2 ≠ 4 by decide), um_t (show 1 ≠ 4 by decide)]
  exact hK
/-- scare -/
theorem INV_scare (hI : INV Q A M n fb) : INV Q (sm A 7 f (-1)) (um M 5 f 0 (-1)) n fb := by
  obtain ⟨⟨hP, hS, hZ, hG, hB, hB2, hV, hO⟩, hR, hW, hK⟩ := hI
  have hpl : PLs M (um M 5 f 0 (-1)) := PLs_5 (by decide) (by decide)
  refine ⟨⟨RP_s hpl hP, RS_7 hS, RZ_r hZ (by decide) (by decide), PG_t hG (by decide), PB_t hB (by decide), hB2, vS_50 hV (Or.inl (by decide)), RO_s hpl hO⟩, SR_s hpl (um_t (by decide)) hR, WI_t hW (by decide), ?_⟩
  unfold KI
  rw [um_t (show 2 ≠ 5 by decide), um_t (show 1 ≠ 5 by decide)]
  exact hK
/-- glaze -/
theorem INV_glaze (hI : INV Q A M n fb) (hp : p < n 2) (hg : M 2 p 3 = 1) : INV Q (snL A (nI p)) (um M 2 p 3 0) n fb := by
  obtain ⟨⟨hP, hS, hZ, hG, hB, hB2, hV, hO⟩, hR, hW, hK⟩ := hI
  have n2 := hP.2.1.2.1
  have hpl : PLs M (um M 2 p 3 0) := PLs_2 (by decide)
  obtain ⟨g1, g2⟩ : M 2 p 1 = 0 ∧ M 2 p 2 = 0 := by
    rcases hG p hp with h | ⟨-, h⟩
    · rw [hg] at h; exact absurd h (by decide)
    · exact h
  have hsn : snL A (nI p) = sm (sm (sm A 3 p 0) 1 p 0) 2 p 0 := by
    unfold snL
    rw [sp_n (by omega) (by decide), sp_n (by omega) (by decide), sp_n (by omega) (by decide)]
  have hM : um (um (um M 2 p 3 0) 2 p 1 0) 2 p 2 0 = um M 2 p 3 0 := by
    rw [um_id (M := um M 2 p 3 0) (j := 1) ((um_c (by decide)).trans g1), um_id (M := um M 2 p 3 0) (j := 2) ((um_c (by decide)).trans g2)]
  have hS2 := RS_2 (p := p) (v := 0) (RS_1 (p := p) (v := 0) (RS_3 (p := p) (v := 0) hS))
  rw [hM] at hS2
  rw [hsn]
  refine ⟨⟨RP_s hpl hP, hS2, RZ_2 (RZ_1 (RZ_r hZ (by decide) (by decide)) hp) hp, ?_, ?_, hB2, vS_2 hV (by decide), RO_s hpl hO⟩, SR_s hpl (um_t (by decide)) hR, WI_t hW (by decide), ?_⟩
  · intro p' hp'
    rw [um_x, um_x, um_x]
    by_cases e : p' = p
    · subst e
      exact Or.inl (if_pos ⟨rfl, rfl⟩)
    · rw [if_neg (fun q => e q.1), if_neg (fun q => e q.1), if_neg (fun q => e q.1)]
      exact hG p' hp'
  · intro p' hp'
    rw [um_x, um_x]
    by_cases e : p' = p
    · subst e
      exact ⟨⟨0, by rw [if_neg (fun q => by cases q.2)]; exact g1, Nat.zero_le _⟩, Or.inl (if_pos ⟨rfl, rfl⟩)⟩
    · rw [if_neg (fun q => e q.1), if_neg (fun q => e q.1)]
      exact hB p' hp'
  · intro p' hp'
    rw [um_c (show 2 ≠ 3 by decide), um_c (show 0 ≠ 3 by decide), um_t (show 1 ≠ 2 by decide)]
    exact hK p' hp'
/-- hours, and what they spared -/
def hrs (n : Nat → Nat) (m : Nat) (M : Mm) : Int32 × Mm := itr (fun _ a => (a.1 + (sPa a.2 n).1, sPs a.2 n)) 0 m (0, M)
theorem gn_eq (hI : INV Q A M n fb) (hm : m < 2 ^ 31) : INV Q (gnL Q A (nI m)) (hrs n m M).2 n fb ∧ gnL Q A (nI m) 0 2 = A 0 2 + (hrs n m M).1 ∧ PLs M (hrs n m M).2 ∧ (hrs n m M).2 0 0 1 = M 0 0 1 ∧ (hrs n m M).2 0 0 3 = M 0 0 3 := by
  unfold gnL hrs
  rw [itI_0 hm]
  refine itr_sim (P := fun A' (a : Int32 × Mm) => INV Q A' a.2 n fb ∧ A' 0 2 = A 0 2 + a.1 ∧ PLs M a.2 ∧ a.2 0 0 1 = M 0 0 1 ∧ a.2 0 0 3 = M 0 0 3) (m := m) (fun k A' a _ h => ?_) m 0 A (0, M) (by omega) ⟨hI, (Int32.add_zero _).symm, PLs_r, rfl, rfl⟩
  obtain ⟨h1, h2, h3, h4, h5⟩ := h
  obtain ⟨g1, g2, g3, g4, g5⟩ := hr_eq h1
  exact ⟨g1, by rw [g2, h2, Int32.add_assoc], PLs_t h3 g3, g4.trans h4, g5.trans h5⟩
theorem hrs_1 : hrs n 1 M = ((sPa M n).1, sPs M n) := by
  show ((0 : Int32) + (sPa M n).1, sPs M n) = _
  rw [Int32.zero_add]
end PURE10
