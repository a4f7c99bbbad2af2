/-! PURE: panes, an hour. -/
section PURE9
variable {Q A A1 A' : Mem} {M M' : Mm} {n fb : Nat → Nat} {p k b c q f j B : Nat} {v w i x y : Int32}
/-- the state on the way through the panes -/
def PW (Q A : Mem) (M : Mm) (n fb : Nat → Nat) (B k : Nat) (A' : Mem) (a : Int32 × Mm) : Prop := RS A' a.2 n ∧ RZ A' n ∧ PG a.2 n ∧ vS a.2 n ∧ PLs M a.2 ∧ a.2 0 = M 0 ∧ A' 0 0 = A 0 0 ∧ A' 0 1 = A 0 1 ∧ A' 0 3 = A 0 3 ∧ A' 0 2 = A 0 2 + a.1 ∧ WI a.2 n ∧ KI a.2 n ∧ ∀ p, p < n 2 → ∃ x, a.2 2 p 1 = nI x ∧ x ≤ (if p < k then 1799 else B)
theorem we_step (hC : CX Q A M n fb B) (hB3 : B < 100000) (hp : p < n 2) {a : Int32 × Mm} (h : PW Q A M n fb B p A' a) : PW Q A M n fb B (p + 1) (weL Q A' (nI p)) (sQs p a) := by
  obtain ⟨hS, hZ, hG, hV, hpl, hm0, a00, a01, a03, a02, hW, hK, hx⟩ := h
  have n1 := hC.1.2.1.1
  have n2 := hC.1.2.1.2.1
  have hRP := RP_s hpl hC.1
  obtain ⟨z, t, hz, ht, ht0, ht9, hzt⟩ := hK p hp
  obtain ⟨x, hx1, hx2⟩ := hx p hp
  rw [if_neg (Nat.lt_irrefl p)] at hx2
  have rest : ∀ (A2 : Mem) (M2 : Mm), (∀ p', p' < n 2 → p' ≠ p → M2 2 p' 1 = a.2 2 p' 1) → (∃ x, M2 2 p 1 = nI x ∧ x ≤ 1799) → ∀ p', p' < n 2 → ∃ x, M2 2 p' 1 = nI x ∧ x ≤ (if p' < p + 1 then 1799 else B) := by
    intro A2 M2 b8 b9 p' hp'
    by_cases e : p' = p
    · subst e
      rw [if_pos (Nat.lt_succ_self _)]
      exact b9
    · rw [b8 p' hp' e]
      obtain ⟨x, x1, x2⟩ := hx p' hp'
      refine ⟨x, x1, ?_⟩
      by_cases c : p' < p
      · rw [if_pos c] at x2; rw [if_pos (by omega)]; exact x2
      · rw [if_neg c] at x2; rw [if_neg (by omega)]; exact x2
  unfold weL sQs
  rw [whL_k hRP hS hp]
  rcases hG p hp with hg | ⟨hg, h1, h2⟩
  · rw [decide_eq_true hg, if_neg (show ¬ (true = false) by decide), if_neg (show ¬ a.2 2 p 3 = 1 by rw [hg]; decide)]
    obtain ⟨e4, b1, hb1, e0, -⟩ := hRP.2.2.2.1 p hp
    have hbay : (a.2 2 p 0).toNatClampNeg = b1 := by rw [e0, nI_clamp (by omega)]
    have hth : thL Q (nI p) = nI t := by
      unfold thL
      rw [ca_n (by omega) (by decide), e4, e0, ca_n (by omega) (by decide), (hRP.2.2.1.2.2 b1 hb1).2.1, ← hbay]
      exact ht
    have hdiv : (nI x : Int32) / 10 = nI (x / 10) := pk_div (a := x) (d := 10) (by omega) (by decide) (by decide)
    have hqa : sQa a.2 p = um a.2 2 p 2 (nI (z + x / 10)) := by
      unfold sQa
      rw [hz, hx1, hdiv, nI_add]
    have hwc : weC A' (nI p) = sm A' 2 p (nI (z + x / 10)) := by
      unfold weC
      rw [ca_n (by omega) (by decide), ca_n (by omega) (by decide), (hS.2.1 p hp).2.1, (hS.2.1 p hp).1, hz, hx1, hdiv, nI_add, sp_n (by omega) (by decide)]
    have hv : ca 40 (weC A' (nI p) 2) (nI p) = nI (z + x / 10) := by
      rw [hwc, ca_n (by omega) (by decide), sm_x, if_pos ⟨rfl, rfl⟩]
    have h20 : (20 : Int32) * nI t = nI (20 * t) := pk_mul 20 t
    have h20' : nI t * (20 : Int32) = nI (20 * t) := by rw [Int32.mul_comm]; exact h20
    have hq2 : sQa a.2 p 2 p 2 = nI (z + x / 10) := by rw [hqa, um_e]
    have hq1 : sQa a.2 p 1 (sQa a.2 p 2 p 0).toNatClampNeg 1 = nI t := by
      rw [hqa, um_c (by decide), um_t (by decide)]
      exact ht
    rw [hv, hth, h20, hq1, hq2, h20']
    have hS1 : RS (weC A' (nI p)) (sQa a.2 p) n := by rw [hwc, hqa]; exact RS_2 hS
    have hZ1 : RZ (weC A' (nI p)) n := by rw [hwc]; exact RZ_2 hZ hp
    have hpq : PLs a.2 (sQa a.2 p) := by rw [hqa]; exact PLs_2 (by decide)
    have hVq : vS (sQa a.2 p) n := by rw [hqa]; exact vS_2 hV (by decide)
    by_cases c1 : z + x / 10 < 20 * t
    · rw [if_pos (nI_lt c1 (by omega)), if_neg (nI_ge c1 (by omega))]
      refine ⟨hS1, hZ1, ?_, hVq, PLs_t hpl hpq, by show sQa a.2 p 0 = _; rw [hqa, um_t (by decide)]; exact hm0, by rw [hwc, sm_ne (by decide)]; exact a00, by rw [hwc, sm_ne (by decide)]; exact a01, by rw [hwc, sm_ne (by decide)]; exact a03, by rw [hwc, sm_ne (by decide)]; exact a02, by show WI (sQa a.2 p) n; rw [hqa]; exact WI_t hW (by decide), ?_, ?_⟩
      · show PG (sQa a.2 p) n
        rw [hqa]
        intro p' hp'
        rw [um_x, um_x, um_x]
        by_cases e : p' = p
        · subst e
          exact Or.inl (by rw [if_neg (fun q => by cases q.2)]; exact hg)
        · rw [if_neg (fun q => e q.1), if_neg (fun q => e q.1), if_neg (fun q => e q.1)]
          exact hG p' hp'
      · show KI (sQa a.2 p) n
        rw [hqa]
        intro p' hp'
        rw [um_c (show 0 ≠ 2 by decide), um_t (show 1 ≠ 2 by decide)]
        by_cases e : p' = p
        · subst e
          exact ⟨z + x / 10, t, um_e, ht, ht0, ht9, c1⟩
        · obtain ⟨z', t', k1, k2, k3, k4, k5⟩ := hK p' hp'
          exact ⟨z', t', by rw [um_x, if_neg (fun q => e q.1)]; exact k1, k2, k3, k4, k5⟩
      · refine rest A' _ (fun p' _ hne => ?_) ⟨x, ?_, by omega⟩
        · show sQa a.2 p 2 p' 1 = _
          rw [hqa, um_c (by decide)]
        · show sQa a.2 p 2 p 1 = _
          rw [hqa, um_c (by decide)]
          exact hx1
    · rw [if_neg (fun h => c1 ((nI_ltI (by omega) (by omega)).mp h)), if_pos (nI_le (by omega) (by omega))]
      have hwg : weG (weC A' (nI p)) (nI p) = sm (sm (sm (sm (sm (weC A' (nI p)) 3 p 0) 1 p 0) 2 p 0) 3 p 1) 0 2 (A' 0 2 + 1) := by
        unfold weG snL
        rw [sp_n (by omega) (by decide), sp_n (by omega) (by decide), sp_n (by omega) (by decide), sp_n (by omega) (by decide), hwc, sm_ne (show 0 ≠ 2 by decide)]
      have hqb : ∀ X : Mm, sQb X p = um (um (um X 2 p 1 0) 2 p 2 0) 2 p 3 1 := fun X => rfl
      have hS2 : RS (sm (sm (sm (sm (sm (weC A' (nI p)) 3 p 0) 1 p 0) 2 p 0) 3 p 1) 0 2 (A' 0 2 + 1)) (sQb (sQa a.2 p) p) n := by
        have h := RS_3 (p := p) (v := 1) (RS_2 (p := p) (v := 0) (RS_1 (p := p) (v := 0) (RS_3 (p := p) (v := 0) hS1)))
        have hc : um (um (um (um (sQa a.2 p) 2 p 3 0) 2 p 1 0) 2 p 2 0) 2 p 3 1 = sQb (sQa a.2 p) p := by
          rw [hqb]
          funext t' r' j'
          by_cases c : t' = 2
          · subst c
            rw [um_x, um_x, um_x, um_x, um_x, um_x, um_x]
            by_cases d : r' = p ∧ j' = 3
            · rw [if_pos d, if_pos d]
            · rw [if_neg d, if_neg d, if_neg d]
          · rw [um_t c, um_t c, um_t c, um_t c, um_t c, um_t c, um_t c]
        rw [hc] at h
        obtain ⟨g0, g1, g2, g3⟩ := h
        refine ⟨?_, fun p' hp' => ?_, fun c' hc' => ?_, fun f' hf' => ?_⟩
        · have o : ∀ (X : Mem) (v : Int32) (j : Nat), j ≠ 2 → sm X 0 2 v 0 j = X 0 j := fun X v j h => by rw [sm_x, if_neg (fun q => h q.2)]
          rw [o _ _ 0 (by decide), o _ _ 1 (by decide), o _ _ 3 (by decide)]
          exact g0
        · rw [sm_ne (show 1 ≠ 0 by decide), sm_ne (show 2 ≠ 0 by decide), sm_ne (show 3 ≠ 0 by decide)]
          exact g1 p' hp'
        · rw [sm_ne (show 4 ≠ 0 by decide), sm_ne (show 5 ≠ 0 by decide), sm_ne (show 6 ≠ 0 by decide)]
          exact g2 c' hc'
        · rw [sm_ne (show 7 ≠ 0 by decide), sm_ne (show 8 ≠ 0 by decide)]
          exact g3 f' hf'
      rw [hwg]
      have hA0 : ∀ j', j' ≠ 2 → sm (sm (sm (sm (sm (weC A' (nI p)) 3 p 0) 1 p 0) 2 p 0) 3 p 1) 0 2 (A' 0 2 + 1) 0 j' = A' 0 j' := fun j' hj => by
        rw [sm_x, if_neg (fun q => hj q.2), sm_ne (show 0 ≠ 3 by decide), sm_ne (show 0 ≠ 2 by decide), sm_ne (show 0 ≠ 1 by decide), sm_ne (show 0 ≠ 3 by decide), hwc, sm_ne (show 0 ≠ 2 by decide)]
      refine ⟨hS2, RZ_r (RZ_r (RZ_2 (RZ_1 (RZ_r hZ1 (by decide) (by decide)) hp) hp) (by decide) (by decide)) (by decide) (by decide), ?_, vS_2 (vS_2 (vS_2 hVq (by decide)) (by decide)) (by decide), PLs_t hpl (PLs_t hpq (PLs_t (PLs_2 (by decide)) (PLs_t (PLs_2 (by decide)) (PLs_2 (by decide))))), ?_, by rw [hA0 0 (by decide)]; exact a00, by rw [hA0 1 (by decide)]; exact a01, by rw [hA0 3 (by decide)]; exact a03, ?_, WI_t (WI_t (WI_t (by rw [hqa]; exact WI_t hW (by decide)) (by decide)) (by decide)) (by decide), ?_, ?_⟩
      · show PG (sQb (sQa a.2 p) p) n
        rw [hqb, hqa]
        intro p' hp'
        by_cases e : p' = p
        · subst e
          refine Or.inr ⟨um_e, ?_, ?_⟩
          · rw [um_c (by decide), um_c (by decide), um_e]
          · rw [um_c (by decide), um_e]
        · rw [um_x, um_x, um_x, um_x, um_x, um_x, um_x, um_x, um_x, um_x, um_x, um_x]
          simp only [e, false_and, if_false]
          exact hG p' hp'
      · show sQb (sQa a.2 p) p 0 = _
        rw [hqb, hqa, um_t (by decide), um_t (by decide), um_t (by decide), um_t (by decide)]
        exact hm0
      · show sm _ 0 2 (A' 0 2 + 1) 0 2 = A 0 2 + (a.1 + 1)
        rw [sm_x, if_pos ⟨rfl, rfl⟩, a02, Int32.add_assoc]
      · show KI (sQb (sQa a.2 p) p) n
        rw [hqb, hqa]
        intro p' hp'
        rw [um_c (show 0 ≠ 3 by decide), um_c (show 0 ≠ 2 by decide), um_c (show 0 ≠ 1 by decide), um_c (show 0 ≠ 2 by decide), um_t (show 1 ≠ 2 by decide), um_t (show 1 ≠ 2 by decide), um_t (show 1 ≠ 2 by decide), um_t (show 1 ≠ 2 by decide)]
        by_cases e : p' = p
        · subst e
          exact ⟨0, t, by rw [um_c (by decide), um_e]; rfl, ht, ht0, ht9, by omega⟩
        · obtain ⟨z', t', k1, k2, k3, k4, k5⟩ := hK p' hp'
          refine ⟨z', t', ?_, k2, k3, k4, k5⟩
          rw [um_x, um_x, um_x, um_x]
          simp only [e, false_and, if_false]
          exact k1
      · refine rest A' _ (fun p' _ hne => ?_) ⟨0, ?_, by omega⟩
        · show sQb (sQa a.2 p) p 2 p' 1 = _
          rw [hqb, hqa, um_x, um_x, um_x, um_x]
          simp only [hne, false_and, if_false]
        · show sQb (sQa a.2 p) p 2 p 1 = _
          rw [hqb, um_c (by decide), um_c (by decide), um_e]
          rfl
  · rw [decide_eq_false (by rw [hg]; decide), if_pos rfl, if_pos hg]
    exact ⟨hS, hZ, hG, hV, hpl, hm0, a00, a01, a03, a02, hW, hK, rest A' _ (fun _ _ _ => rfl) ⟨0, h1, by omega⟩⟩
/-- all that stays true from hour to hour -/
def INV (Q A : Mem) (M : Mm) (n fb : Nat → Nat) : Prop := CX Q A M n fb 1799 ∧ SR M n ∧ WI M n ∧ KI M n
theorem hr_eq (hI : INV Q A M n fb) : INV Q (hrL Q A) (sPs M n) n fb ∧ hrL Q A 0 2 = A 0 2 + (sPa M n).1 ∧ PLs M (sPs M n) ∧ sPs M n 0 0 1 = M 0 0 1 ∧ sPs M n 0 0 3 = M 0 0 3 := by
  obtain ⟨hC, hR, hW, hK⟩ := hI
  have n2 := hC.1.2.1.2.1
  have n3 := hC.1.2.1.2.2.2.1
  have n4 := hC.1.2.1.2.2.2.2.1
  have n5 := hC.1.2.1.2.2.2.2.2.1
  -- 1
  have s1 : CX Q (h1L Q A) (sP1 M n) n fb (1799 + 30 * n 3) ∧ PLs M (sP1 M n) ∧ h1L Q A 0 = A 0 ∧ sP1 M n 0 = M 0 ∧ WI (sP1 M n) n ∧ KI (sP1 M n) n := by
    unfold h1L sP1
    rw [hC.1.1.2.2.1, itI_0 (by omega)]
    refine itr_simI (P := fun k A' M' => CX Q A' M' n fb (1799 + 30 * k) ∧ PLs M M' ∧ A' 0 = A 0 ∧ M' 0 = M 0 ∧ WI M' n ∧ KI M' n) (m := n 3) (fun k A' M' hk hP => ?_) (n 3) 0 A M (by omega) ⟨hC, PLs_r, rfl, rfl, hW, hK⟩
    obtain ⟨p1, p2, p3, p4, p5, p6⟩ := hP
    obtain ⟨g1, g2, g3, g4⟩ := so_eq (k := k) p1 (SR_s p2 p4 hR) hk (by omega)
    refine ⟨by rw [show 1799 + 30 * (k + 1) = 1799 + 30 * k + 30 by omega]; exact g1, PLs_t p2 g2, g3.trans p3, g4.trans p4, ?_, ?_⟩
    · have : sC2 n k M' 4 = M' 4 := by
        unfold sC2
        split
        · refine itr_I (I := fun a : Mm => a 4 = M' 4) (m := n 2) (fun p a _ h => ?_) (n 2) 0 M' (by omega) rfl
          unfold sC1
          split
          · exact h
          split
          · exact h
          split
          · exact h
          · rw [um_t (by decide)]; exact h
        · rfl
      unfold WI
      rw [this]
      exact p5
    · have h2 : ∀ p, sC2 n k M' 2 p 2 = M' 2 p 2 := by
        intro p
        unfold sC2
        split
        · refine itr_I (I := fun a : Mm => a 2 p 2 = M' 2 p 2) (m := n 2) (fun q a _ h => ?_) (n 2) 0 M' (by omega) rfl
          unfold sC1
          split
          · exact h
          split
          · exact h
          split
          · exact h
          · rw [um_c (by decide)]; exact h
        · rfl
      unfold KI
      simp only [h2, g2.1, g2.2.2.2.1]
      exact p6
  revert s1
  unfold hrL sPs sPa
  generalize h1L Q A = A1
  generalize sP1 M n = M1
  rintro ⟨c1, pl1, a1, m1, w1, k1⟩
  -- 2
  have hR1 := SR_s pl1 m1 hR
  have s2 : CX Q (h2L Q A1) (sP2 M1 n) n fb (1799 + 30 * n 3 + 20 * n 5) ∧ PLs M1 (sP2 M1 n) ∧ h2L Q A1 0 2 = A1 0 2 ∧ sP2 M1 n 0 = M1 0 ∧ WI (sP2 M1 n) n ∧ KI (sP2 M1 n) n := by
    unfold h2L sP2
    rw [hC.1.1.2.2.2.2.1, itI_0 (by omega)]
    refine itr_simI (P := fun k A' M' => CX Q A' M' n fb (1799 + 30 * n 3 + 20 * k) ∧ PLs M1 M' ∧ A' 0 2 = A1 0 2 ∧ M' 0 = M1 0 ∧ WI M' n ∧ KI M' n) (m := n 5) (fun k A' M' hk hP => ?_) (n 5) 0 A1 M1 (by omega) ⟨c1, PLs_r, rfl, rfl, w1, k1⟩
    obtain ⟨p1, p2, p3, p4, p5, p6⟩ := hP
    have hRk := SR_s p2 p4 hR1
    obtain ⟨b, e, hb, hb2, he, he0, he2⟩ := hRk.2.2.1 k hk
    obtain ⟨g1, g2, g3, g4⟩ := mf_eq (f := k) p1 hk (by rw [he]; exact nI_nle he0 (by omega)) hb hb2 (by omega)
    refine ⟨by rw [show 1799 + 30 * n 3 + 20 * (k + 1) = 1799 + 30 * n 3 + 20 * k + 20 by omega]; exact g1, PLs_t p2 g2, g3.trans p3, g4.trans p4, ?_, ?_⟩
    · have h0 : sFl M' n k 4 = M' 4 := by
        unfold sFl
        split
        · rfl
        rw [um_t (by decide)]
        split
        · rfl
        · rw [um_t (by decide)]
      have : sF1 n k M' 4 = M' 4 := by
        unfold sF1
        split
        · exact h0
        · rw [um_t (by decide)]; exact h0
      unfold WI
      rw [this]
      exact p5
    · have h2 : ∀ p, sF1 n k M' 2 p 2 = M' 2 p 2 := by
        intro p
        have h0 := (sFl_w (M := M') (n := n) (f := k) (by omega)).1
        unfold sF1
        split
        · rw [h0]
        · rw [um_c (by decide), h0]
      unfold KI
      simp only [h2, g2.1, g2.2.2.2.1]
      exact p6
  revert s2
  generalize h2L Q A1 = A2
  generalize sP2 M1 n = M2
  rintro ⟨c2, pl2, a2, m2, w2, k2⟩
  have hR2 := SR_s pl2 m2 hR1
  -- 3
  have s3 : CX Q (h3L Q A2) (sP3 M2 n) n fb (1799 + 30 * n 3 + 20 * n 5) ∧ PLs M2 (sP3 M2 n) ∧ h3L Q A2 0 2 = A2 0 2 ∧ sP3 M2 n 0 = M2 0 ∧ WI (sP3 M2 n) n ∧ KI (sP3 M2 n) n := by
    unfold h3L sP3
    rw [hC.1.1.2.2.2.1, itI_0 (by omega)]
    refine itr_sim (P := fun A' M' => CX Q A' M' n fb (1799 + 30 * n 3 + 20 * n 5) ∧ PLs M2 M' ∧ A' 0 2 = A2 0 2 ∧ M' 0 = M2 0 ∧ WI M' n ∧ KI M' n) (m := n 4) (fun k A' M' hk hP => ?_) (n 4) 0 A2 M2 (by omega) ⟨c2, PLs_r, rfl, rfl, w2, k2⟩
    obtain ⟨p1, p2, p3, p4, p5, p6⟩ := hP
    obtain ⟨g1, g2, g3, g4, g5⟩ := mc_eq (c := k) p1 (SR_s p2 p4 hR2) p5 hk (by omega)
    refine ⟨g1, PLs_t p2 g2, g4.trans p3, g5.trans p4, g3, ?_⟩
    have h2 : ∀ p, sMc n k M' 2 p 2 = M' 2 p 2 := by
      intro p
      have e1 : sWe (sMw M' n k) k 2 = M' 2 := by
        unfold sWe sMw
        split
        · rw [um_t (by decide), um_t (by decide)]
        · rw [um_t (by decide)]
      unfold sMc
      split
      · rfl
      unfold sMx sWd
      split
      · rw [e1]
      split
      · rw [e1]
      split
      · rw [e1]
      unfold sWc sWb sWa
      rw [um_t (by decide), um_t (by decide), um_c (by decide), e1]
    unfold KI
    simp only [h2, g2.1, g2.2.2.2.1]
    exact p6
  revert s3
  generalize h3L Q A2 = A3
  generalize sP3 M2 n = M3
  rintro ⟨c3, pl3, a3, m3, w3, k3⟩
  -- 4
  have s4 : PW Q A3 M3 n fb (1799 + 30 * n 3 + 20 * n 5) (n 2) (h4L Q A3) (sP4 M3 n) := by
    unfold h4L sP4
    rw [hC.1.1.2.1, itI_0 (by omega)]
    refine itr_simI (P := fun k A' a => PW Q A3 M3 n fb (1799 + 30 * n 3 + 20 * n 5) k A' a) (m := n 2) (fun k A' a hk hP => we_step c3 (by omega) hk hP) (n 2) 0 A3 (0, M3) (by omega) ⟨c3.2.1, c3.2.2.1, c3.2.2.2.1, c3.2.2.2.2.2.2.1, PLs_r, rfl, rfl, rfl, rfl, (Int32.add_zero _).symm, w3, k3, fun p hp => ?_⟩
    obtain ⟨x, x1, x2⟩ := (c3.2.2.2.2.1 p hp).1
    exact ⟨x, x1, by rw [if_neg (Nat.not_lt_zero _)]; exact x2⟩
  revert s4
  generalize h4L Q A3 = A4
  generalize sP4 M3 n = a4
  rintro ⟨hS, hZ, hG, hV, hpl, hm0, a00, a01, a03, a02, hW4, hK4, hx⟩
  have hplA : PLs M a4.2 := PLs_t pl1 (PLs_t pl2 (PLs_t pl3 hpl))
  have hmA : a4.2 0 = M 0 := hm0.trans (m3.trans (m2.trans m1))
  have hplB : PLs M (sP5 a4) := PLs_t hplA (PLs_t PLs_0 PLs_0)
  have h00 : ∀ j, j ≠ 0 → j ≠ 2 → sP5 a4 0 0 j = M 0 0 j := fun j h0 h2 => by
    unfold sP5
    rw [um_c h0, um_c h2, hmA]
  have hS5 : RS (h5L A4) (sP5 a4) n := by
    obtain ⟨g0, g1, g2, g3⟩ := hS
    unfold h5L sP5
    refine ⟨?_, fun p' hp' => ?_, fun c' hc' => ?_, fun f' hf' => ?_⟩
    · rw [sm_x, sm_x, sm_x, if_pos ⟨rfl, rfl⟩, if_neg (by decide), if_neg (by decide), um_e, um_c (show 0 ≠ 2 by decide), um_c (show 1 ≠ 0 by decide), um_c (show 1 ≠ 2 by decide), um_c (show 3 ≠ 0 by decide), um_c (show 3 ≠ 2 by decide), g0.1]
      exact ⟨rfl, g0.2⟩
    · rw [sm_ne (show 1 ≠ 0 by decide), sm_ne (show 2 ≠ 0 by decide), sm_ne (show 3 ≠ 0 by decide), um_t (show 2 ≠ 0 by decide), um_t (show 2 ≠ 0 by decide)]
      exact g1 p' hp'
    · rw [sm_ne (show 4 ≠ 0 by decide), sm_ne (show 5 ≠ 0 by decide), sm_ne (show 6 ≠ 0 by decide), um_t (show 4 ≠ 0 by decide), um_t (show 4 ≠ 0 by decide)]
      exact g2 c' hc'
    · rw [sm_ne (show 7 ≠ 0 by decide), sm_ne (show 8 ≠ 0 by decide), um_t (show 5 ≠ 0 by decide), um_t (show 5 ≠ 0 by decide)]
      exact g3 f' hf'
  have hB5 : PB' (sP5 a4) n 1799 := by
    unfold sP5
    refine PB_t (PB_t (fun p hp => ⟨?_, (hG p hp).imp id (fun h => ⟨h.1, h.2.1⟩)⟩) (by decide)) (by decide)
    obtain ⟨x, x1, x2⟩ := hx p hp
    rw [if_pos hp] at x2
    exact ⟨x, x1, x2⟩
  refine ⟨⟨⟨RP_s hplB hC.1, hS5, RZ_r hZ (by decide) (by decide), PG_t (PG_t hG (by decide)) (by decide), hB5, by decide, vS_0 (vS_0 hV), RO_s hplB hC.2.2.2.2.2.2.2⟩, ?_, WI_t (WI_t hW4 (by decide)) (by decide), ?_⟩, ?_, hplB, h00 1 (by decide) (by decide), h00 3 (by decide) (by decide)⟩
  · unfold SR at *
    rw [hplB.1, hplB.2.1, h00 1 (by decide) (by decide)]
    simp only [hplB.2.2.2.2.1, hplB.2.2.2.2.2]
    exact hR
  · unfold KI sP5
    simp only [um_t (show 2 ≠ 0 by decide), um_t (show 1 ≠ 0 by decide)]
    exact hK4
  · unfold h5L
    rw [sm_x, if_neg (by decide), a02, a3, a2, a1]
end PURE9
