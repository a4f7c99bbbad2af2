/-! PURE: orders, goals, scares (written by gen73.py). -/
/-- the same but for the stack -/
def eqA (A A' : Mem) : Prop := (∀ k, k ≠ 0 → k ≠ 9 → A' k = A k) ∧ (∀ j, j ≠ 4 → A' 0 j = A 0 j)
/-- the orders are Sim's, compiled -/
def RO (Q : Mem) (M : Mm) (n : Nat → Nat) : Prop := ∀ k, k < n 6 → ∃ a b c : Nat, Q 17 k = nI a ∧ Q 18 k = nI b ∧ Q 19 k = nI c ∧ Q 16 k = M 6 k 1 ∧ ((M 6 k 0 = 1 ∧ Q 15 k = 16 ∧ ¬ M 6 k 4 = -1) ∨ (M 6 k 0 = 0 ∧ Q 15 k = 14 ∧ b = a + (cSu (M 6 k)).length ∧ prg Q a (cSu (M 6 k)))) ∧ c = b + (cHo (M 6 k)).length ∧ c ≤ 400 ∧ prg Q b (cHo (M 6 k)) ∧ (∃ x, M 6 k 6 = nI x ∧ x < 40)
/-- all that is known of both -/
def CX (Q A : Mem) (M : Mm) (n fb : Nat → Nat) (B : Nat) : Prop := RP Q M n fb ∧ RS A M n ∧ RZ A n ∧ PG M n ∧ PB' M n B ∧ B < 2 ^ 30 ∧ vS M n ∧ RO Q M n
section PURE4
variable {Q A A1 A' : Mem} {M : Mm} {n fb : Nat → Nat} {p k b c q f B : Nat} {v w i : Int32} {vs : List Int32}
theorem itx_l {S R : Type} {f : Nat → S → R ⊕ S} {k m : Nat} {s : S} {r : R} (h : f k s = .inl r) : itx f k (m + 1) s = .inl r := by
  unfold itx
  rw [h]
theorem itx_r {S R : Type} {f : Nat → S → R ⊕ S} {k m : Nat} {s s' : S} (h : f k s = .inr s') : itx f k (m + 1) s = itx f (k + 1) m s' := by
  rw [itx, h]
theorem eqA_r : eqA A A := ⟨fun _ _ _ => rfl, fun _ _ => rfl⟩
theorem eqA_t (h : eqA A A1) (h' : eqA A1 A') : eqA A A' := ⟨fun k h0 h9 => (h'.1 k h0 h9).trans (h.1 k h0 h9), fun j h4 => (h'.2 j h4).trans (h.2 j h4)⟩
theorem SK_eq (h : SK A A' vs) : eqA A A' := ⟨h.2.2.1, h.2.2.2⟩
theorem RS_eq (h : eqA A A') (hS : RS A M n) : RS A' M n := by
  unfold RS
  rw [h.2 0 (by decide), h.2 1 (by decide), h.2 3 (by decide), h.1 1 (by decide) (by decide), h.1 2 (by decide) (by decide), h.1 3 (by decide) (by decide), h.1 4 (by decide) (by decide), h.1 5 (by decide) (by decide), h.1 6 (by decide) (by decide), h.1 7 (by decide) (by decide), h.1 8 (by decide) (by decide)]
  exact hS
theorem RZ_eq (h : eqA A A') (hZ : RZ A n) : RZ A' n := by
  unfold RZ
  rw [h.1 1 (by decide) (by decide), h.1 2 (by decide) (by decide)]
  exact hZ
theorem CX_eq (h : eqA A A') (hC : CX Q A M n fb B) : CX Q A' M n fb B := ⟨hC.1, RS_eq h hC.2.1, RZ_eq h hC.2.2.1, hC.2.2.2⟩
theorem cHo_len {own : Nat → Int32} : (cHo own).length ≤ 14 := by
  unfold cHo
  repeat' split
  all_goals exact Nat.le_of_ble_eq_true rfl
theorem cSu_len {own : Nat → Int32} : (cSu own).length ≤ 9 := by
  unfold cSu
  repeat' split
  all_goals exact Nat.le_of_ble_eq_true rfl
theorem cHo_0 {own : Nat → Int32} (h : own 4 = -1) : cHo own = [] := if_pos h
theorem cHo_n {own : Nat → Int32} (h : ¬ own 4 = -1) : 0 < (cHo own).length := by
  unfold cHo
  rw [if_neg h]
  repeat' split
  all_goals exact Nat.le_of_ble_eq_true rfl
/-- a test, reckoned -/
theorem test_eq (hC : CX Q A M n fb B) (hk : k < n 6) (hne : ¬ M 6 k 4 = -1) : rvL Q A (ca 16 (Q 18) (nI k)) (ca 16 (Q 19) (nI k)) = b01 (sHo M n k) ∧ eqA A (rmL Q A (ca 16 (Q 18) (nI k)) (ca 16 (Q 19) (nI k))) := by
  obtain ⟨hP, hS, hZ, hG, hB, hB2, hV, hO⟩ := hC
  have n6 := hP.2.1.2.2.2.2.2.2
  obtain ⟨a, b, c, -, e18, e19, -, -, hc, hc4, hp, h6⟩ := hO k hk
  have ho := hV.1 k hk
  obtain ⟨h1, h2⟩ := cHo_eq hP hS hZ hG hB hB2 ho h6 hne
  have hl := cHo_len (own := M 6 k)
  rw [ca_n (by omega) (by decide), ca_n (by omega) (by decide), e18, e19, hc]
  obtain ⟨r1, r2⟩ := rk_eq (by omega) (by omega) hp h2 h1
  exact ⟨r1, SK_eq r2⟩
/-- a sum, reckoned -/
theorem sum_eq (hC : CX Q A M n fb B) (hk : k < n 6) (h0 : M 6 k 0 = 0) : rvL Q A (ca 16 (Q 17) (nI k)) (ca 16 (Q 18) (nI k)) = sSu M n k ∧ eqA A (rmL Q A (ca 16 (Q 17) (nI k)) (ca 16 (Q 18) (nI k))) := by
  obtain ⟨hP, hS, hZ, hG, hB, hB2, hV, hO⟩ := hC
  have n6 := hP.2.1.2.2.2.2.2.2
  obtain ⟨a, b, c, e17, e18, -, -, hs, hc, hc4, -, h6⟩ := hO k hk
  rcases hs with ⟨h1, -⟩ | ⟨-, -, hb, hp⟩
  · rw [h0] at h1; exact absurd h1 (by decide)
  have ho := hV.1 k hk
  obtain ⟨h1, h2⟩ := cSu_eq hP hS hZ hG hB hB2 ho h6
  have hl := cSu_len (own := M 6 k)
  rw [ca_n (by omega) (by decide), ca_n (by omega) (by decide), e17, e18, hb]
  obtain ⟨r1, r2⟩ := rk_eq (by omega) (by omega) hp h2 h1
  exact ⟨r1, SK_eq r2⟩
theorem ifL_16 (hC : CX Q A M n fb B) (hk : k < n 6) : ifL Q (nI k) 16 w = decide (M 6 k 0 = 1 ∧ M 6 k 1 = w) := by
  have n6 := hC.1.2.1.2.2.2.2.2.2
  obtain ⟨a, b, c, -, -, -, e16, hs, -⟩ := hC.2.2.2.2.2.2.2 k hk
  unfold ifL
  rw [ca_n (by omega) (by decide), ca_n (by omega) (by decide), e16]
  rcases hs with ⟨h1, h2, -⟩ | ⟨h1, h2, -⟩
  · rw [h2, if_neg (by decide)]
    by_cases c1 : M 6 k 1 = w
    · rw [if_neg (not_not_intro c1), decide_eq_true ⟨h1, c1⟩]
    · rw [if_pos c1, decide_eq_false (fun h => c1 h.2)]
  · rw [h2, if_pos (by decide), decide_eq_false (fun h => by rw [h1] at h; exact absurd h.1 (by decide))]
theorem ifL_14 (hC : CX Q A M n fb B) (hk : k < n 6) : ifL Q (nI k) 14 w = decide (M 6 k 0 = 0 ∧ M 6 k 1 = w) := by
  have n6 := hC.1.2.1.2.2.2.2.2.2
  obtain ⟨a, b, c, -, -, -, e16, hs, -⟩ := hC.2.2.2.2.2.2.2 k hk
  unfold ifL
  rw [ca_n (by omega) (by decide), ca_n (by omega) (by decide), e16]
  rcases hs with ⟨h1, h2, -⟩ | ⟨h1, h2, -⟩
  · rw [h2, if_pos (by decide), decide_eq_false (fun h => by rw [h1] at h; exact absurd h.1 (by decide))]
  · rw [h2, if_neg (by decide)]
    by_cases c1 : M 6 k 1 = w
    · rw [if_neg (not_not_intro c1), decide_eq_true ⟨h1, c1⟩]
    · rw [if_pos c1, decide_eq_false (fun h => c1 h.2)]
/-- scares -/
theorem sG1_t (q k : Nat) : itr (sG1 M n f) k q true = true := by
  induction q generalizing k with
  | zero => rfl
  | succ q ih =>
    have : sG1 M n f k true = true := by
      unfold sG1
      repeat' split
      all_goals rfl
    show itr (sG1 M n f) (k + 1) q (sG1 M n f k true) = true
    rw [this]
    exact ih (k + 1)
theorem scd_eq (hC : CX Q A M n fb B) : eqA A (toM (scL Q A (nI f))) ∧ itr (sG1 M n f) 0 (n 6) false = toB (scL Q A (nI f)) := by
  have n6 := hC.1.2.1.2.2.2.2.2.2
  unfold scL
  rw [hC.1.1.2.2.2.2.2, itxI_0 (by omega)]
  suffices key : ∀ q k A', k + q = n 6 → eqA A A' → eqA A (toM (itx (fun k => scS Q (nI f) (nI k)) k q A')) ∧ itr (sG1 M n f) k q false = toB (itx (fun k => scS Q (nI f) (nI k)) k q A') from key (n 6) 0 A (by omega) eqA_r
  intro q
  induction q with
  | zero => intro k A' _ h; exact ⟨h, rfl⟩
  | succ q ih =>
    intro k A' e h
    have hC' := CX_eq h hC
    have hk : k < n 6 := by omega
    have hif := ifL_16 (w := nI f) hC' hk
    have e2 : itr (sG1 M n f) k (q + 1) false = itr (sG1 M n f) (k + 1) q (sG1 M n f k false) := rfl
    rw [e2]
    by_cases c1 : M 6 k 0 = 1
    · by_cases c2 : M 6 k 1 = nI f
      · obtain ⟨a, b, c, -, -, -, -, hs, -⟩ := hC.2.2.2.2.2.2.2 k hk
        have hne : ¬ M 6 k 4 = -1 := by
          rcases hs with ⟨-, -, h⟩ | ⟨h, -⟩
          · exact h
          · rw [c1] at h; exact absurd h (by decide)
        obtain ⟨t1, t2⟩ := test_eq hC' hk hne
        cases hh : sHo M n k with
        | false =>
          have e1 : scS Q (nI f) (nI k) A' = .inr (rmL Q A' (ca 16 (Q 18) (nI k)) (ca 16 (Q 19) (nI k))) := by
            unfold scS
            rw [hif, decide_eq_true ⟨c1, c2⟩, if_neg (by decide), t1, hh, if_pos b01_f]
          have e3 : sG1 M n f k false = false := by
            unfold sG1
            rw [if_neg (not_not_intro c1), if_neg (not_not_intro c2), hh, if_pos rfl]
          rw [itx_r e1, e3]
          exact ih (k + 1) _ (by omega) (eqA_t h t2)
        | true =>
          have e1 : scS Q (nI f) (nI k) A' = .inl (rmL Q A' (ca 16 (Q 18) (nI k)) (ca 16 (Q 19) (nI k))) := by
            unfold scS
            rw [hif, decide_eq_true ⟨c1, c2⟩, if_neg (by decide), t1, hh, if_neg (by decide)]
          have e3 : sG1 M n f k false = true := by
            unfold sG1
            rw [if_neg (not_not_intro c1), if_neg (not_not_intro c2), hh, if_neg (by decide)]
          rw [itx_l e1, e3]
          exact ⟨eqA_t h t2, sG1_t q (k + 1)⟩
      · have e1 : scS Q (nI f) (nI k) A' = .inr A' := by
          unfold scS
          rw [hif, decide_eq_false (fun h => c2 h.2), if_pos rfl]
        have e3 : sG1 M n f k false = false := by
          unfold sG1
          rw [if_neg (not_not_intro c1), if_pos c2]
        rw [itx_r e1, e3]
        exact ih (k + 1) _ (by omega) h
    · have e1 : scS Q (nI f) (nI k) A' = .inr A' := by
        unfold scS
        rw [hif, decide_eq_false (fun h => c1 h.1), if_pos rfl]
      have e3 : sG1 M n f k false = false := by
        unfold sG1
        rw [if_pos c1]
      rw [itx_r e1, e3]
      exact ih (k + 1) _ (by omega) h
/-- a goal -/
theorem held {x : Int32} {m : Nat} (hm : 0 < m) (hm2 : m < 1000) : mxL 0 (mnL x (nI m - 1)) = if 0 ≤ x then (if x < nI m then x else nI m - 1) else 0 := by
  obtain ⟨m, rfl⟩ : ∃ k, m = k + 1 := ⟨m - 1, by omega⟩
  rw [nI_pred]
  unfold mxL mnL
  have e1 : (nI m).toInt = m := nI_toInt (by omega)
  have e2 : (nI (m + 1)).toInt = m + 1 := nI_toInt (by omega)
  have z : (0 : Int32).toInt = 0 := rfl
  by_cases c1 : 0 ≤ x
  · rw [if_pos c1]
    by_cases c2 : x < nI (m + 1)
    · have h : ¬ nI m < x := by rw [Int32.lt_iff_toInt_lt] at *; omega
      rw [if_pos c2, if_neg h]
      by_cases c3 : 0 < x
      · rw [if_pos c3]
      · rw [if_neg c3]
        apply Int32.toInt_inj.mp
        rw [Int32.lt_iff_toInt_lt] at c3
        rw [Int32.le_iff_toInt_le] at c1
        omega
    · have h : nI m < x := by rw [Int32.lt_iff_toInt_lt] at *; omega
      rw [if_neg c2, if_pos h]
      by_cases c3 : 0 < nI m
      · rw [if_pos c3]
      · rw [if_neg c3]
        apply Int32.toInt_inj.mp
        rw [Int32.lt_iff_toInt_lt] at c3
        omega
  · rw [if_neg c1]
    have h : ¬ nI m < x := by rw [Int32.lt_iff_toInt_lt]; rw [Int32.le_iff_toInt_le] at c1; omega
    rw [if_neg h, if_neg (fun g => c1 (Int32.le_of_lt g))]
theorem go_eq (hC : CX Q A M n fb B) (hc : c < n 4) : (goL Q A (nI c)).1 = sGl M n c ∧ eqA A (goL Q A (nI c)).2 := by
  have n6 := hC.1.2.1.2.2.2.2.2.2
  have n4 := hC.1.2.1.2.2.2.2.1
  have n2 := hC.1.2.1.2.1
  have n20 := hC.1.2.1.2.2.1
  unfold goL sGl
  rw [hC.1.1.2.2.2.2.2, itxI_0 (by omega)]
  suffices key : ∀ q k A', k + q = n 6 → eqA A A' → (xit id (fun A' => (ca 3 (A' 4) (nI c), A')) (itx (fun k => sgS Q (nI c) (nI k)) k q A')).1 = xit id (fun _ => M 4 c 0) (itx (fun k (_ : Unit) => sGs M n (nI c) k) k q ()) ∧ eqA A (xit id (fun A' => (ca 3 (A' 4) (nI c), A')) (itx (fun k => sgS Q (nI c) (nI k)) k q A')).2 from key (n 6) 0 A (by omega) eqA_r
  intro q
  induction q with
  | zero =>
    intro k A' _ h
    refine ⟨?_, h⟩
    show ca 3 (A' 4) (nI c) = M 4 c 0
    rw [ca_n (by omega) (by decide), ((RS_eq h hC.2.1).2.2.1 c hc).1]
  | succ q ih =>
    intro k A' e h
    have hC' := CX_eq h hC
    have hk : k < n 6 := by omega
    have hif := ifL_14 (w := nI c) hC' hk
    obtain ⟨a, b, d, e17, e18, e19, e16, hs, hd, hd4, -, -⟩ := hC.2.2.2.2.2.2.2 k hk
    by_cases c1 : M 6 k 0 = 1
    · have e1 : sgS Q (nI c) (nI k) A' = .inr A' := by
        unfold sgS
        rw [hif, decide_eq_false (fun h => by rw [c1] at h; exact absurd h.1 (by decide)), if_pos rfl]
      have e2 : sGs M n (nI c) k = .inr () := by
        unfold sGs
        rw [if_pos c1]
      rw [itx_r e1, itx_r e2]
      exact ih (k + 1) _ (by omega) h
    have h0 : M 6 k 0 = 0 := by
      rcases hs with ⟨h, -⟩ | ⟨h, -⟩
      · exact absurd h c1
      · exact h
    by_cases c2 : M 6 k 1 = nI c
    · have fin : ∀ A2, eqA A A2 → (sgL Q A2 (nI k)).1 = (if 0 ≤ sSu M n k then (if sSu M n k < nI (n 2) then sSu M n k else nI (n 2) - 1) else 0) ∧ eqA A (sgL Q A2 (nI k)).2 := by
        intro A2 h2
        obtain ⟨s1, s2⟩ := sum_eq (CX_eq h2 hC) hk h0
        unfold sgL
        rw [s1, hC.1.1.2.1]
        exact ⟨held n20 (by omega), eqA_t h2 s2⟩
      by_cases c3 : M 6 k 4 = -1
      · have hb : ca 16 (Q 18) (nI k) = ca 16 (Q 19) (nI k) := by
          rw [ca_n (by omega) (by decide), ca_n (by omega) (by decide), e18, e19, hd, cHo_0 c3]
          rfl
        have hh : sHo M n k = true := if_pos c3
        have e1 : sgS Q (nI c) (nI k) A' = .inl (sgL Q A' (nI k)) := by
          unfold sgS
          rw [hif, decide_eq_true ⟨h0, c2⟩, if_neg (by decide), if_pos hb]
        have e2 : sGs M n (nI c) k = .inl (if 0 ≤ sSu M n k then (if sSu M n k < nI (n 2) then sSu M n k else nI (n 2) - 1) else 0) := by
          unfold sGs
          rw [if_neg c1, if_neg (not_not_intro c2), hh, if_neg (by decide)]
        rw [itx_l e1, itx_l e2]
        exact fin A' h
      · have hb : ¬ ca 16 (Q 18) (nI k) = ca 16 (Q 19) (nI k) := by
          rw [ca_n (by omega) (by decide), ca_n (by omega) (by decide), e18, e19]
          have := cHo_n c3
          exact fun e => by have := (nI_eq (by omega) (by omega)).mp e; omega
        obtain ⟨t1, t2⟩ := test_eq hC' hk c3
        cases hh : sHo M n k with
        | false =>
          have e1 : sgS Q (nI c) (nI k) A' = .inr (rmL Q A' (ca 16 (Q 18) (nI k)) (ca 16 (Q 19) (nI k))) := by
            unfold sgS
            rw [hif, decide_eq_true ⟨h0, c2⟩, if_neg (by decide), if_neg hb, t1, hh, if_pos b01_f]
          have e2 : sGs M n (nI c) k = .inr () := by
            unfold sGs
            rw [if_neg c1, if_neg (not_not_intro c2), hh, if_pos rfl]
          rw [itx_r e1, itx_r e2]
          exact ih (k + 1) _ (by omega) (eqA_t h t2)
        | true =>
          have e1 : sgS Q (nI c) (nI k) A' = .inl (sgL Q (rmL Q A' (ca 16 (Q 18) (nI k)) (ca 16 (Q 19) (nI k))) (nI k)) := by
            unfold sgS
            rw [hif, decide_eq_true ⟨h0, c2⟩, if_neg (by decide), if_neg hb, t1, hh, if_neg (by decide)]
          have e2 : sGs M n (nI c) k = .inl (if 0 ≤ sSu M n k then (if sSu M n k < nI (n 2) then sSu M n k else nI (n 2) - 1) else 0) := by
            unfold sGs
            rw [if_neg c1, if_neg (not_not_intro c2), hh, if_neg (by decide)]
          rw [itx_l e1, itx_l e2]
          exact fin _ (eqA_t h t2)
    · have e1 : sgS Q (nI c) (nI k) A' = .inr A' := by
        unfold sgS
        rw [hif, decide_eq_false (fun h => c2 h.2), if_pos rfl]
      have e2 : sGs M n (nI c) k = .inr () := by
        unfold sGs
        rw [if_neg c1, if_pos c2]
      rw [itx_r e1, itx_r e2]
      exact ih (k + 1) _ (by omega) h
end PURE4
