/-! PURE: chimneys and cradles. -/
/-- what the list tells keeps to its ranges; the wind -/
def SR (M : Mm) (n : Nat → Nat) : Prop :=
  (∀ k, k < n 3 → ∃ a s e r : Nat, M 3 k 0 = nI a ∧ a < 40 ∧ M 3 k 1 = nI s ∧ s ≤ 30 ∧ M 3 k 2 = nI e ∧ 0 < e ∧ e ≤ 12 ∧ M 3 k 3 = nI r ∧ r ≤ 9) ∧
  (∀ c, c < n 4 → ∃ s w : Nat, M 4 c 1 = nI s ∧ s ≤ 9 ∧ M 4 c 2 = nI w ∧ w ≤ 60) ∧
  (∀ f, f < n 5 → ∃ b e : Nat, M 5 f 1 = nI b ∧ b ≤ 20 ∧ M 5 f 2 = nI e ∧ 0 < e ∧ e ≤ 12) ∧
  (∀ b, b < n 1 → ∃ t : Nat, M 1 b 1 = nI t ∧ 0 < t ∧ t ≤ 9) ∧
  (-3 ≤ (M 0 0 1).toInt ∧ (M 0 0 1).toInt ≤ 3)
section PURE7
variable {Q A A1 A' : Mem} {M M' : Mm} {n fb : Nat → Nat} {p k b c q f j B : Nat} {v w i x y : Int32}
theorem SR_s (h : PLs M M') (h0 : M' 0 = M 0) (hR : SR M n) : SR M' n := by
  unfold SR at *
  rw [h.1, h.2.1, h0]
  simp only [h.2.2.2.2.1, h.2.2.2.2.2]
  exact hR
theorem ti_add {a b : Int} (hx : x.toInt = a) (hy : y.toInt = b) (h1 : -1000000 < a) (h2 : a < 1000000) (h3 : -1000000 < b) (h4 : b < 1000000) : (x + y).toInt = a + b := by
  rw [Int32.toInt_add, hx, hy]
  exact Int.bmod_eq_of_le (by omega) (by omega)
theorem ti_sub {a b : Int} (hx : x.toInt = a) (hy : y.toInt = b) (h1 : -1000000 < a) (h2 : a < 1000000) (h3 : -1000000 < b) (h4 : b < 1000000) : (x - y).toInt = a - b := by
  rw [Int32.toInt_sub, hx, hy]
  exact Int.bmod_eq_of_le (by omega) (by omega)
theorem of_ti {m : Nat} (h : x.toInt = (m : Int)) (hm : m < 2 ^ 31) : x = nI m := Int32.toInt_inj.mp (h.trans (nI_toInt hm).symm)
/-- the state on the way: the first k panes have had theirs -/
def PC (Q A : Mem) (M : Mm) (n fb : Nat → Nat) (B k : Nat) (A' : Mem) (M' : Mm) : Prop := RS A' M' n ∧ RZ A' n ∧ PG M' n ∧ vS M' n ∧ PLs M M' ∧ M' 0 = M 0 ∧ A' 0 = A 0 ∧ ∀ p, p < n 2 → ∃ x, M' 2 p 1 = nI x ∧ x ≤ (if p < k then B + 30 else B)
theorem so_eq (hC : CX Q A M n fb B) (hR : SR M n) (hk : k < n 3) (hB2 : B + 30 < 100000) : CX Q (soL Q A (nI k)) (sC2 n k M) n fb (B + 30) ∧ PLs M (sC2 n k M) ∧ soL Q A (nI k) 0 = A 0 ∧ sC2 n k M 0 = M 0 := by
  have n2 := hC.1.2.1.2.1
  have n20 := hC.1.2.1.2.2.1
  have n3 := hC.1.2.1.2.2.2.1
  obtain ⟨q5, q6, q7, q8⟩ := hC.1.2.2.2.2.1 k hk
  obtain ⟨a, s, e, r, ha, ha2, hs, hs2, he, he0, he2, hr, hr2⟩ := hR.1 k hk
  obtain ⟨w1, w2⟩ := hR.2.2.2.2
  have hA01 := hC.2.1.1.2.1
  unfold soL sC2
  rw [ca_n (by omega) (by decide), ca_n (by omega) (by decide), ca_n (by omega) (by decide), ca_n (by omega) (by decide), q5, q6, q7, q8, hA01, hC.1.1.2.1]
  rw [ho_eq hC.2.1.1.1 (by rw [he]; exact nI_nle he0 (by omega))]
  have hle : ∀ p hp, _ := fun p (hp : p < n 2) => (hC.2.2.2.2.1 p hp).1
  by_cases c1 : M 0 0 0 - M 0 0 0 / M 3 k 2 * M 3 k 2 = 0
  · rw [if_pos c1, decide_eq_true c1, if_neg (by decide)]
    have tw : (M 0 0 1).toInt = (M 0 0 1).toInt := rfl
    have ta : (M 3 k 0).toInt = (a : Int) := by rw [ha]; exact nI_toInt (by omega)
    have tr : (M 3 k 3).toInt = (r : Int) := by rw [hr]; exact nI_toInt (by omega)
    have tm : (M 3 k 0 + M 0 0 1).toInt = a + (M 0 0 1).toInt := ti_add ta tw (by omega) (by omega) (by omega) (by omega)
    have t1 : (M 3 k 0 + M 0 0 1 - M 3 k 3).toInt = a + (M 0 0 1).toInt - r := ti_sub tm tr (by omega) (by omega) (by omega) (by omega)
    have t2 : (M 3 k 0 + M 0 0 1 + M 3 k 3).toInt = a + (M 0 0 1).toInt + r := ti_add tm tr (by omega) (by omega) (by omega) (by omega)
    have t3 : (nI (n 2) - 1).toInt = (n 2 : Int) - 1 := pk_sub_toInt (b := 1) (by omega) (by decide)
    have t4 : (mnL (M 3 k 0 + M 0 0 1 + M 3 k 3) (nI (n 2) - 1)).toInt = min (a + (M 0 0 1).toInt + r) ((n 2 : Int) - 1) := by
      unfold mnL
      split
      · next c => rw [Int32.lt_iff_toInt_lt, t3, t2] at c; rw [t3]; omega
      · next c => rw [Int32.lt_iff_toInt_lt, t3, t2] at c; rw [t2]; omega
    have t5 : (mnL (M 3 k 0 + M 0 0 1 + M 3 k 3) (nI (n 2) - 1) + 1).toInt = min (a + (M 0 0 1).toInt + r) ((n 2 : Int) - 1) + 1 := ti_add t4 (show (1 : Int32).toInt = 1 from rfl) (by omega) (by omega) (by omega) (by omega)
    have t6 : (mxL (M 3 k 0 + M 0 0 1 - M 3 k 3) 0).toInt = max (a + (M 0 0 1).toInt - r) 0 := by
      unfold mxL
      have z : (0 : Int32).toInt = 0 := rfl
      split
      · next c => rw [Int32.lt_iff_toInt_lt, t1, z] at c; rw [z]; omega
      · next c => rw [Int32.lt_iff_toInt_lt, t1, z] at c; rw [t1]; omega
    have el : mxL (M 3 k 0 + M 0 0 1 - M 3 k 3) 0 = nI (max (a + (M 0 0 1).toInt - r) 0).toNat := of_ti (by rw [t6]; omega) (by omega)
    have hcnt : rng (mxL (M 3 k 0 + M 0 0 1 - M 3 k 3) 0) (mnL (M 3 k 0 + M 0 0 1 + M 3 k 3) (nI (n 2) - 1) + 1) = (min (a + (M 0 0 1).toInt + r) ((n 2 : Int) - 1) + 1 - max (a + (M 0 0 1).toInt - r) 0).toNat := by
      unfold rng
      rw [t5, t6]
    rw [hcnt, el, itI_n]
    generalize hl : (max (a + (M 0 0 1).toInt - r) 0).toNat = l
    generalize hct : (min (a + (M 0 0 1).toInt + r) ((n 2 : Int) - 1) + 1 - max (a + (M 0 0 1).toInt - r) 0).toNat = ct
    -- one loop over all panes
    have hall : itr (fun i => soS Q (M 3 k 0 + M 0 0 1) (M 3 k 1) (nI i)) l ct A = itr (fun i A' => if l ≤ i ∧ i < l + ct then soS Q (M 3 k 0 + M 0 0 1) (M 3 k 1) (nI i) A' else A') 0 (n 2) A := by
      by_cases h0 : ct = 0
      · subst h0
        exact (itr_none (m := n 2) (fun i A' _ => if_neg (by omega)) (n 2) 0 A (by omega)).symm
      · have hs : n 2 = l + (ct + (n 2 - (l + ct))) := by omega
        rw [show itr (fun i A' => if l ≤ i ∧ i < l + ct then soS Q (M 3 k 0 + M 0 0 1) (M 3 k 1) (nI i) A' else A') 0 (n 2) A = itr (fun i A' => if l ≤ i ∧ i < l + ct then soS Q (M 3 k 0 + M 0 0 1) (M 3 k 1) (nI i) A' else A') 0 (l + (ct + (n 2 - (l + ct)))) A by rw [← hs]]
        rw [itr_split, itr_split, Nat.zero_add]
        rw [itr_none (m := l) (fun i A' hi => if_neg (by omega)) l 0 A (by omega)]
        have g1 : ∀ q i A', l + ct ≤ i → itr (fun i A' => if l ≤ i ∧ i < l + ct then soS Q (M 3 k 0 + M 0 0 1) (M 3 k 1) (nI i) A' else A') i q A' = A' := by
          intro q
          induction q with
          | zero => intro i A' _; rfl
          | succ q ih =>
            intro i A' hi
            show itr _ (i + 1) q (if l ≤ i ∧ i < l + ct then _ else A') = A'
            rw [if_neg (by omega)]
            exact ih (i + 1) A' (by omega)
        rw [g1 _ _ _ (Nat.le_refl _)]
        have g2 : ∀ q i A', l ≤ i → i + q = l + ct → itr (fun i => soS Q (M 3 k 0 + M 0 0 1) (M 3 k 1) (nI i)) i q A' = itr (fun i A' => if l ≤ i ∧ i < l + ct then soS Q (M 3 k 0 + M 0 0 1) (M 3 k 1) (nI i) A' else A') i q A' := by
          intro q
          induction q with
          | zero => intro i A' _ _; rfl
          | succ q ih =>
            intro i A' hi e
            show itr _ (i + 1) q (soS Q (M 3 k 0 + M 0 0 1) (M 3 k 1) (nI i) A') = itr _ (i + 1) q (if l ≤ i ∧ i < l + ct then soS Q (M 3 k 0 + M 0 0 1) (M 3 k 1) (nI i) A' else A')
            rw [if_pos (by omega)]
            exact ih (i + 1) _ (by omega) (by omega)
        exact g2 ct l A (Nat.le_refl _) rfl
    rw [hall]
    have fin := itr_simI (P := PC Q A M n fb B) (m := n 2) (f := fun i A' => if l ≤ i ∧ i < l + ct then soS Q (M 3 k 0 + M 0 0 1) (M 3 k 1) (nI i) A' else A') (g := sC1 k) (fun p A' M' hp hP => by
      obtain ⟨hS, hZ, hG, hV, hpl, hm0, ha0, hx⟩ := hP
      have hRP := RP_s hpl hC.1
      have hnext : ∀ (A2 : Mem) (M2 : Mm), RS A2 M2 n → RZ A2 n → PG M2 n → vS M2 n → PLs M M2 → M2 0 = M 0 → A2 0 = A 0 → (∀ p', p' < n 2 → p' ≠ p → M2 2 p' 1 = M' 2 p' 1) → (∃ x, M2 2 p 1 = nI x ∧ x ≤ B + 30) → PC Q A M n fb B (p + 1) A2 M2 := by
        intro A2 M2 b1 b2 b3 b4 b5 b6 b7 b8 b9
        refine ⟨b1, b2, b3, b4, b5, b6, b7, fun p' hp' => ?_⟩
        by_cases e : p' = p
        · subst e
          rw [if_pos (Nat.lt_succ_self _)]
          exact b9
        · rw [b8 p' hp' e]
          obtain ⟨x, x1, x2⟩ := hx p' hp'
          refine ⟨x, x1, ?_⟩
          by_cases c : p' < p
          · rw [if_pos c] at x2; rw [if_pos (by omega)]; exact x2
          · rw [if_neg c] at x2; rw [if_neg (by omega)]; exact x2
      obtain ⟨x, hx1, hx2⟩ := hx p hp
      rw [if_neg (Nat.lt_irrefl p)] at hx2
      have hfa : sFa M' k p = diL (nI p) (M 3 k 0 + M 0 0 1) := by
        unfold sFa diL
        rw [hm0, hpl.2.1]
        split
        · rfl
        · apply Int32.toInt_inj.mp
          have tp : (nI p).toInt = (p : Int) := nI_toInt (by omega)
          rw [ti_sub (ti_sub tp ta (by omega) (by omega) (by omega) (by omega)) tw (by omega) (by omega) (by omega) (by omega), ti_sub tp tm (by omega) (by omega) (by omega) (by omega)]
          omega
      have hfi : (diL (nI p) (M 3 k 0 + M 0 0 1)).toInt = if (p : Int) ≤ a + (M 0 0 1).toInt then a + (M 0 0 1).toInt - p else p - (a + (M 0 0 1).toInt) := by
        have tp : (nI p).toInt = (p : Int) := nI_toInt (by omega)
        unfold diL
        by_cases c : nI p ≤ M 3 k 0 + M 0 0 1
        · have c' := c
          rw [Int32.le_iff_toInt_le, tp, tm] at c'
          rw [if_pos c, if_pos c', ti_sub tm tp (by omega) (by omega) (by omega) (by omega)]
        · have c' := c
          rw [Int32.le_iff_toInt_le, tp, tm] at c'
          rw [if_neg c, if_neg c', ti_sub tp tm (by omega) (by omega) (by omega) (by omega)]
      show PC Q A M n fb B (p + 1) (if l ≤ p ∧ p < l + ct then _ else A') (sC1 k p M')
      unfold sC1
      rw [hfa, hpl.2.1]
      have same : PC Q A M n fb B (p + 1) A' M' := hnext A' M' hS hZ hG hV hpl hm0 ha0 (fun _ _ _ => rfl) ⟨x, hx1, by omega⟩
      by_cases c2 : M 3 k 3 < diL (nI p) (M 3 k 0 + M 0 0 1)
      · have c2' := c2
        rw [Int32.lt_iff_toInt_lt, tr, hfi] at c2'
        rw [if_pos c2, if_neg (by split at c2' <;> omega)]
        exact same
      have c2' := c2
      rw [Int32.lt_iff_toInt_lt, tr, hfi] at c2'
      rw [if_neg c2, if_pos (by split at c2' <;> omega)]
      unfold soS
      rw [whL_k hRP hS hp, ca_n (by omega) (by decide), sp_n (by omega) (by decide), (hS.2.1 p hp).1]
      by_cases c4 : M' 2 p 3 = 0
      · rw [decide_eq_true c4, if_neg (by decide), if_neg (not_not_intro c4)]
        have ts : (M 3 k 1).toInt = (s : Int) := by rw [hs]; exact nI_toInt (by omega)
        have td : (M 3 k 1 - diL (nI p) (M 3 k 0 + M 0 0 1)).toInt = s - (diL (nI p) (M 3 k 0 + M 0 0 1)).toInt := ti_sub ts rfl (by omega) (by omega) (by rw [hfi]; split <;> omega) (by rw [hfi]; split <;> omega)
        have z : (0 : Int32).toInt = 0 := rfl
        by_cases c3 : M 3 k 1 ≤ diL (nI p) (M 3 k 0 + M 0 0 1)
        · have c3' := c3
          rw [Int32.le_iff_toInt_le, ts] at c3'
          have hz : mxL 0 (M 3 k 1 - diL (nI p) (M 3 k 0 + M 0 0 1)) = 0 := by
            unfold mxL
            rw [if_neg]
            rw [Int32.lt_iff_toInt_lt, z, td]
            omega
          rw [if_pos c3, hz, Int32.add_zero]
          have hS' : RS (sm A' 1 p (M' 2 p 1)) M' n := by
            have h := RS_1 (p := p) (v := M' 2 p 1) hS
            rw [um_self] at h
            exact h
          exact hnext _ M' hS' (RZ_1 hZ hp) hG hV hpl hm0 ((sm_ne (by decide)).trans ha0) (fun _ _ _ => rfl) ⟨x, hx1, by omega⟩
        · have c3' := c3
          rw [Int32.le_iff_toInt_le, ts] at c3'
          have hz : mxL 0 (M 3 k 1 - diL (nI p) (M 3 k 0 + M 0 0 1)) = M 3 k 1 - diL (nI p) (M 3 k 0 + M 0 0 1) := by
            unfold mxL
            rw [if_pos]
            rw [Int32.lt_iff_toInt_lt, z, td]
            omega
          rw [if_neg c3, hz]
          have hd0 : 0 ≤ (diL (nI p) (M 3 k 0 + M 0 0 1)).toInt := by rw [hfi]; split <;> omega
          have hval : M' 2 p 1 + (M 3 k 1 - diL (nI p) (M 3 k 0 + M 0 0 1)) = nI (x + (s - (diL (nI p) (M 3 k 0 + M 0 0 1)).toInt).toNat) := by
            refine of_ti ?_ (by omega)
            rw [ti_add (show (M' 2 p 1).toInt = (x : Int) by rw [hx1]; exact nI_toInt (by omega)) td (by omega) (by omega) (by omega) (by omega)]
            omega
          refine hnext _ _ (RS_1 hS) (RZ_1 hZ hp) (PG_2 hG c4) (vS_2 hV (by decide)) (PLs_t hpl (PLs_2 (by decide))) ((um_t (by decide)).trans hm0) ((sm_ne (by decide)).trans ha0) (fun p' _ hne => ?_) ⟨_, um_e.trans hval, by omega⟩
          rw [um_x, if_neg (fun q => hne q.1)]
      · rw [decide_eq_false c4, if_pos rfl]
        have hsm : (if M 3 k 1 ≤ diL (nI p) (M 3 k 0 + M 0 0 1) then M' else if ¬ M' 2 p 3 = 0 then M' else um M' 2 p 1 (M' 2 p 1 + (M 3 k 1 - diL (nI p) (M 3 k 0 + M 0 0 1)))) = M' := by
          split
          · rfl
          · first | rfl | rw [if_pos c4]
        rw [hsm]
        exact same) (n 2) 0 A M (by omega) ⟨hC.2.1, hC.2.2.1, hC.2.2.2.1, hC.2.2.2.2.2.2.1, PLs_r, rfl, rfl, fun p hp => by
          obtain ⟨x, h1, h2⟩ := hle p hp
          exact ⟨x, h1, by rw [if_neg (Nat.not_lt_zero _)]; exact h2⟩⟩
    obtain ⟨f1, f2, f3, f4, f5, f6, f7, f8⟩ := fin
    refine ⟨CX_s f5 hC f1 f2 f3 (fun p hp => ⟨?_, (f3 p hp).imp id (fun h => ⟨h.1, h.2.1⟩)⟩) (by omega) f4, f5, f7, f6⟩
    obtain ⟨x, x1, x2⟩ := f8 p hp
    rw [if_pos hp] at x2
    exact ⟨x, x1, x2⟩
  · rw [if_neg c1, decide_eq_false c1, if_pos rfl]
    exact ⟨⟨hC.1, hC.2.1, hC.2.2.1, hC.2.2.2.1, PBB_le hC.2.2.2.2.1 (by omega), by omega, hC.2.2.2.2.2.2⟩, PLs_r, rfl, rfl⟩
end PURE7
