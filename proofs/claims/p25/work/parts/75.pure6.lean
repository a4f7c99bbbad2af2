/-! PURE: a flock's turn. -/
section PURE6
variable {Q A A1 A' : Mem} {M : Mm} {n fb : Nat → Nat} {p k b c q f j B : Nat} {v w i : Int32}
theorem um_cm {t r j' : Nat} (h : j ≠ j') : um (um M t r j v) t r j' w = um (um M t r j' w) t r j v := by
  funext t' r' k'
  by_cases ht : t' = t
  · subst ht
    rw [um_x, um_x, um_x, um_x]
    by_cases c1 : r' = r ∧ k' = j'
    · rw [if_pos c1, if_neg (fun q => h (q.2.symm.trans c1.2)), if_pos c1]
    · rw [if_neg c1, if_neg c1]
  · rw [um_t ht, um_t ht, um_t ht, um_t ht]
theorem sFb_f (q k : Nat) : itr (sFb M v) k q false = false := by
  induction q generalizing k with
  | zero => rfl
  | succ q ih =>
    have : sFb M v k false = false := by
      unfold sFb
      repeat' split
      all_goals rfl
    show itr (sFb M v) (k + 1) q (sFb M v k false) = false
    rw [this]
    exact ih (k + 1)
/-- what is free was not let go -/
theorem sFr_w (h : sFr M n v = true) : M 2 v.toNatClampNeg 3 = 0 := by
  unfold sFr at h
  by_cases c : M 2 v.toNatClampNeg 3 = 0
  · exact c
  · rw [if_neg c, sFb_f] at h
    cases h
theorem sBe_f : sBe M n w < 0 ∨ sFr M n (sBe M n w) = true := by
  unfold sBe
  suffices key : ∀ m b, (b < 0 ∨ sFr M n b = true) → (itd (sBs M n w) m b < 0 ∨ sFr M n (itd (sBs M n w) m b) = true) from key (n 2) (-1) (Or.inl (by decide))
  intro m
  induction m with
  | zero => intro b h; exact h
  | succ m ih =>
    intro b hI
    refine ih _ ?_
    unfold sBs
    split
    · exact hI
    split
    · exact hI
    · next c =>
      have c' : sFr M n (nI m) = true := by
        cases h : sFr M n (nI m) with
        | false => exact absurd h c
        | true => rfl
      split
      · exact Or.inr c'
      split
      · exact hI
      · exact Or.inr c'
/-- where a flock sits behind its turn was not let go -/
theorem sFl_w (hn : n 2 < 2 ^ 31) : sFl M n f 2 = M 2 ∧ (sFl M n f 5 f 0 < 0 ∨ M 2 (sFl M n f 5 f 0).toNatClampNeg 3 = 0) := by
  unfold sFl
  by_cases c : sGo M n f = false
  · rw [if_pos c]
    refine ⟨rfl, ?_⟩
    unfold sGo at c
    have h0 : sG0 M n f = false := by
      cases h : sG0 M n f with
      | false => rfl
      | true => rw [h, sG1_t] at c; cases c
    unfold sG0 at h0
    by_cases c1 : M 5 f 0 < 0
    · exact Or.inl c1
    rw [if_neg c1] at h0
    split at h0
    · cases h0
    split at h0
    · cases h0
    · next c3 =>
      refine Or.inr (sFr_w (n := n) ?_)
      cases h : sFr M n (M 5 f 0) with
      | false => exact absurd h c3
      | true => rfl
  · rw [if_neg c]
    constructor
    · rw [um_t (by decide)]
      split
      · rfl
      · rw [um_t (by decide)]
    · rw [um_e]
      exact sBe_f.imp id sFr_w
/-- the class' turn, in one form -/
theorem mf_form (hC : CX Q A M n fb B) (hf : f < n 5) (he : ¬ M 5 f 2 ≤ 0) : ∃ A1, eqA A A1 ∧ mfL Q A (nI f) = fbL Q (if sGo M n f = true then fgL Q A1 (nI f) (M 5 f 0) else A1) (nI f) := by
  have n5 := hC.1.2.1.2.2.2.2.2.1
  have e7 : ca 3 (A 7) (nI f) = M 5 f 0 := (ca_n (by omega) (by decide)).trans (hC.2.1.2.2.2 f hf).1
  rw [sGo_eq hC hf he]
  unfold mfL
  by_cases c1 : hoL A (ca 3 (Q 13) (nI f)) = true
  · refine ⟨A, eqA_r, ?_⟩
    rw [if_pos c1, if_pos c1, if_pos rfl, e7]
  rw [if_neg c1, if_neg c1]
  by_cases c2 : frL Q A (ca 3 (A 7) (nI f)) = false
  · refine ⟨A, eqA_r, ?_⟩
    rw [if_pos c2, if_pos c2, if_pos rfl, e7]
  rw [if_neg c2, if_neg c2]
  refine ⟨toM (scL Q A (nI f)), (scd_eq hC).1, ?_⟩
  by_cases c3 : toB (scL Q A (nI f)) = true
  · rw [if_pos c3, if_pos c3, e7]
  · rw [if_neg c3, if_neg c3]
theorem fl_eq (hC : CX Q A M n fb B) (hf : f < n 5) (he : ¬ M 5 f 2 ≤ 0) : ∃ A2, mfL Q A (nI f) = fbL Q A2 (nI f) ∧ CX Q A2 (sFl M n f) n fb B ∧ PLs M (sFl M n f) ∧ A2 0 2 = A 0 2 ∧ sFl M n f 0 = M 0 := by
  obtain ⟨A1, h1, e⟩ := mf_form hC hf he
  have n2 := hC.1.2.1.2.1
  have n5 := hC.1.2.1.2.2.2.2.2.1
  have hC1 := CX_eq h1 hC
  refine ⟨_, e, ?_⟩
  have hV := sFl_I (q := f) (M := M) (n := n) (by omega) hC.2.2.2.2.2.2.1
  by_cases c : sGo M n f = true
  · rw [if_pos c]
    have e8 : ca 3 (A1 8) (nI f) = M 5 f 3 := (ca_n (by omega) (by decide)).trans (hC1.2.1.2.2.2 f hf).2
    have hcl : clL Q A1 (M 5 f 0) = sBe M n (M 5 f 0) := cl_eq hC1
    unfold fgL
    rw [hcl, e8, sp_n (by omega) (by decide), sp_n (by omega) (by decide)]
    have hsf : sFl M n f = um (if sBe M n (M 5 f 0) = M 5 f 0 then M else um M 5 f 3 (M 5 f 3 + 1)) 5 f 0 (sBe M n (M 5 f 0)) := if_neg (by rw [c]; decide)
    by_cases c2 : sBe M n (M 5 f 0) = M 5 f 0
    · rw [if_pos c2]
      rw [hsf, if_pos c2] at hV ⊢
      have hp : PLs M (um M 5 f 0 (sBe M n (M 5 f 0))) := PLs_5 (by decide) (by decide)
      exact ⟨CX_s hp hC (RS_7 hC1.2.1) (RZ_r hC1.2.2.1 (by decide) (by decide)) (PG_t hC.2.2.2.1 (by decide)) (PB_t hC.2.2.2.2.1 (by decide)) hC.2.2.2.2.2.1 hV, hp, by rw [sm_ne (by decide)]; exact h1.2 2 (by decide), um_t (by decide)⟩
    · rw [if_neg c2]
      rw [hsf, if_neg c2] at hV ⊢
      have hp : PLs M (um (um M 5 f 3 (M 5 f 3 + 1)) 5 f 0 (sBe M n (M 5 f 0))) := PLs_t (PLs_5 (by decide) (by decide)) (PLs_5 (by decide) (by decide))
      have hS : RS (sm (sm A1 7 f (sBe M n (M 5 f 0))) 8 f (M 5 f 3 + 1)) (um (um M 5 f 3 (M 5 f 3 + 1)) 5 f 0 (sBe M n (M 5 f 0))) n := by
        rw [um_cm (show 3 ≠ 0 by decide)]
        exact RS_8 (RS_7 hC1.2.1)
      exact ⟨CX_s hp hC hS (RZ_r (RZ_r hC1.2.2.1 (by decide) (by decide)) (by decide) (by decide)) (PG_t (PG_t hC.2.2.2.1 (by decide)) (by decide)) (PB_t (PB_t hC.2.2.2.2.1 (by decide)) (by decide)) hC.2.2.2.2.2.1 hV, hp, by rw [sm_ne (by decide), sm_ne (by decide)]; exact h1.2 2 (by decide), (um_t (by decide)).trans (um_t (by decide))⟩
  · rw [if_neg c]
    have c' : sGo M n f = false := by
      cases h : sGo M n f with
      | false => rfl
      | true => exact absurd h c
    have hsf : sFl M n f = M := if_pos c'
    rw [hsf]
    exact ⟨hC1, PLs_r, h1.2 2 (by decide), rfl⟩
theorem mf_eq {y : Nat} (hC : CX Q A M n fb B) (hf : f < n 5) (he : ¬ M 5 f 2 ≤ 0) (hy : M 5 f 1 = nI y) (hy2 : y ≤ 20) (hB2 : B + 20 < 2 ^ 30) : CX Q (mfL Q A (nI f)) (sF1 n f M) n fb (B + 20) ∧ PLs M (sF1 n f M) ∧ mfL Q A (nI f) 0 2 = A 0 2 ∧ sF1 n f M 0 = M 0 := by
  obtain ⟨A2, e, hC2, hp, ha, hm⟩ := fl_eq hC hf he
  have n2 := hC.1.2.1.2.1
  have n5 := hC.1.2.1.2.2.2.2.2.1
  obtain ⟨g2, gw⟩ := sFl_w (M := M) (n := n) (f := f) (by omega)
  have hv := (hC2.2.2.2.2.2.2.1.2.1 f hf).2
  have hbirds : ca 3 (Q 12) (nI f) = sFl M n f 5 f 1 := (ca_n (by omega) (by decide)).trans (hC2.1.2.2.2.2.2.2 f hf).1
  have h51 : sFl M n f 5 f 1 = nI y := (hp.2.2.2.2.2 f).1.trans hy
  have e7 : ca 3 (A2 7) (nI f) = sFl M n f 5 f 0 := (ca_n (by omega) (by decide)).trans (hC2.2.1.2.2.2 f hf).1
  rw [e]
  unfold fbL sF1
  rw [e7, hbirds]
  revert hC2 hp hm hv gw h51 g2
  generalize sFl M n f = M2
  intro hC2 hp hm g2 gw hv h51
  by_cases c1 : M2 5 f 0 < 0
  · rw [if_pos c1, sp_neg c1 (by decide)]
    exact ⟨⟨hC2.1, hC2.2.1, hC2.2.2.1, hC2.2.2.2.1, PBB_le hC2.2.2.2.2.1 (by omega), hB2, hC2.2.2.2.2.2.2⟩, hp, ha, hm⟩
  · rw [if_neg c1]
    have hx := hv.resolve_left c1
    have hw : M2 2 (M2 5 f 0).toNatClampNeg 3 = 0 := by
      rw [g2]
      rw [show M2 2 = M 2 from g2] at *
      exact gw.resolve_left c1
    have hlt := hx.2
    have e1 : ca 40 (A2 1) (M2 5 f 0) = M2 2 (M2 5 f 0).toNatClampNeg 1 := (ca_vx hx (by omega) (by decide)).trans (hC2.2.1.2.1 _ hlt).1
    have e2 : sp A2 1 40 (M2 5 f 0) (M2 2 (M2 5 f 0).toNatClampNeg 1 + M2 5 f 1) = sm A2 1 (M2 5 f 0).toNatClampNeg (M2 2 (M2 5 f 0).toNatClampNeg 1 + M2 5 f 1) := by
      have h := sp_n (A := A2) (a := 1) (n := 40) (k := (M2 5 f 0).toNatClampNeg) (v := M2 2 (M2 5 f 0).toNatClampNeg 1 + M2 5 f 1) (by omega) (by decide)
      rw [← hx.1] at h
      exact h
    rw [e1, e2]
    obtain ⟨x, hx1, hx2⟩ := (hC2.2.2.2.2.1 _ hlt).1
    have hp2 : PLs M (um M2 2 (M2 5 f 0).toNatClampNeg 1 (M2 2 (M2 5 f 0).toNatClampNeg 1 + M2 5 f 1)) := PLs_t hp (PLs_2 (by decide))
    have hB' : PB' (um M2 2 (M2 5 f 0).toNatClampNeg 1 (M2 2 (M2 5 f 0).toNatClampNeg 1 + M2 5 f 1)) n (B + 20) := by
      rw [hx1, h51, nI_add]
      exact PB_2 (PBB_le hC2.2.2.2.2.1 (by omega)) (by omega) hw
    exact ⟨CX_s hp2 hC (RS_1 hC2.2.1) (RZ_1 hC2.2.2.1 hlt) (PG_2 hC2.2.2.2.1 hw) hB' hB2 (vS_2 hC2.2.2.2.2.2.2.1 (by decide)), hp2, by rw [sm_ne (by decide)]; exact ha, (um_t (by decide)).trans hm⟩
end PURE6
