/-! PURE: the mean; what an hour does to panes. -/
section PURE16
variable {Q A A1 A' Z Z' : Mem} {M M' M3 : Mm} {n fb : Nat → Nat} {p k b c q f j B m a v : Nat} {w i x y len : Int32}
theorem dc_self {z : UInt64} (h : FP.Core.dIsNaN z = false) : Op.cmpValue (FP.dcmp z z) .l = 0 := by
  have e : FP.dcmp z z = some .eq := FP.Core.dcmp_self (of_decide_eq_false h)
  rw [e]
  rfl
theorem me_law (hI : INV Q A M n fb) : Op.cmpValue (FP.dcmp (meL Q A) (meL Q A)) .l = 0 ∧ (sGn M n = nI (n 2) → meL Q A = 0) ∧ (¬ sGn M n = nI (n 2) → meL Q A = FP.ddiv (FP.i2d (sDi M n)) (FP.i2d (nI (n 2) - sGn M n)) ∧ FP.ddiv (FP.i2d (sDi M n)) (FP.i2d (nI (n 2) - sGn M n)) &&& 0x7fffffffffffffff ≤ 0x7ff0000000000000) := by
  have n2 := hI.1.1.2.1.2.1
  have h1 := (pl_eq hI).2
  have h2 := pl_n hI
  have e : nI (n 2) - sGn M n = plL Q A := by rw [← h1, Int32.add_sub_cancel]
  have hc : cnt (stB M) (n 2) ≤ n 2 := by
    have hle : ∀ N, cnt (stB M) N ≤ N := by
      intro N
      induction N with
      | zero => exact Nat.le_refl _
      | succ N ih => rw [cnt_s]; split <;> omega
    exact hle _
  by_cases c : cnt (stB M) (n 2) = 0
  · have p0 : plL Q A = 0 := by rw [h2, c]; rfl
    have m0 : meL Q A = 0 := by
      unfold meL
      rw [p0]
      exact if_pos (Int32.le_refl _)
    refine ⟨?_, fun _ => m0, fun hn => absurd ?_ hn⟩
    · rw [m0]
      exact dc_self (by decide)
    · rw [← h1, p0, Int32.zero_add]
  · have hne : plL Q A ≠ 0 := fun q => by
      rw [h2] at q
      exact c ((nI_eq (b := 0) (by omega) (by decide)).mp q)
    have m0 : meL Q A = FP.ddiv (FP.i2d (sDi M n)) (FP.i2d (plL Q A)) := by
      unfold meL
      rw [if_neg (by rw [h2]; exact nI_nle (by omega) (by omega)), INV_ad hI]
    have hnn := nn_div (x := sDi M n) hne
    refine ⟨?_, fun hn => absurd ?_ hne, fun _ => ?_⟩
    · rw [m0]
      exact dc_self hnn
    · rw [← e, hn, Int32.sub_self]
    · rw [e]
      exact ⟨m0, nn_of hnn⟩
/-- let go in this hour -/
def nwB (M3 : Mm) (p : Nat) : Bool := decide (M3 2 p 3 = 0) && decide (M3 1 (M3 2 p 0).toNatClampNeg 1 * 20 ≤ M3 2 p 2 + M3 2 p 1 / 10)
theorem p4_eq (hG : ∀ p, p < n 2 → M3 2 p 3 = 0 ∨ M3 2 p 3 = 1) : (sP4 M3 n).1 = itr (fun p s => s + if nwB M3 p = true then 1 else 0) 0 (n 2) 0 ∧ ∀ p, p < n 2 → (M3 2 p 3 = 1 → (sP4 M3 n).2 2 p 3 = 1) ∧ (nwB M3 p = true → (sP4 M3 n).2 2 p 3 = 1) ∧ (M3 2 p 3 = 0 → ¬ nwB M3 p = true → (sP4 M3 n).2 2 p 3 = 0 ∧ (sP4 M3 n).2 2 p 2 = M3 2 p 2 + (sP4 M3 n).2 2 p 1 / 10) := by
  have key : ∃ kk, kk = n 2 ∧ (sP4 M3 n).1 = itr (fun p s => s + if nwB M3 p = true then 1 else 0) 0 kk 0 ∧ (sP4 M3 n).2 1 = M3 1 ∧ (∀ p, kk ≤ p → (sP4 M3 n).2 2 p = M3 2 p) ∧ ∀ p, p < kk → (M3 2 p 3 = 1 → (sP4 M3 n).2 2 p 3 = 1) ∧ (nwB M3 p = true → (sP4 M3 n).2 2 p 3 = 1) ∧ (M3 2 p 3 = 0 → ¬ nwB M3 p = true → (sP4 M3 n).2 2 p 3 = 0 ∧ (sP4 M3 n).2 2 p 2 = M3 2 p 2 + (sP4 M3 n).2 2 p 1 / 10) := by
    refine ⟨n 2, rfl, ?_⟩
    unfold sP4
    refine itr_simI (P := fun kk (a : Int32 × Mm) (_ : Unit) => a.1 = itr (fun p s => s + if nwB M3 p = true then 1 else 0) 0 kk 0 ∧ a.2 1 = M3 1 ∧ (∀ p, kk ≤ p → a.2 2 p = M3 2 p) ∧ ∀ p, p < kk → (M3 2 p 3 = 1 → a.2 2 p 3 = 1) ∧ (nwB M3 p = true → a.2 2 p 3 = 1) ∧ (M3 2 p 3 = 0 → ¬ nwB M3 p = true → a.2 2 p 3 = 0 ∧ a.2 2 p 2 = M3 2 p 2 + a.2 2 p 1 / 10)) (g := fun _ u => u) (m := n 2) (fun kk a u hk h => ?_) (n 2) 0 (0, M3) () (by omega) ⟨rfl, rfl, fun _ _ => rfl, fun p hp => absurd hp (Nat.not_lt_zero _)⟩
    obtain ⟨h1, h2, h3, h4⟩ := h
    have hrow := h3 kk (Nat.le_refl _)
    have hb : nwB M3 kk = (decide (M3 2 kk 3 = 0) && decide (M3 1 (M3 2 kk 0).toNatClampNeg 1 * 20 ≤ M3 2 kk 2 + M3 2 kk 1 / 10)) := rfl
    rw [itr_snoc, Nat.zero_add]
    unfold sQs
    have other : ∀ {X : Mm} {j : Nat} {w : Int32} {p : Nat}, p ≠ kk → um X 2 kk j w 2 p = X 2 p := fun {X j w p} hne => by
      funext j'
      rw [um_x, if_neg (fun q => hne q.1)]
    have t1 : ∀ {X : Mm} {j : Nat} {w : Int32}, um X 2 kk j w 1 = X 1 := um_t (by decide)
    rcases hG kk hk with hg | hg
    · rw [if_neg (show ¬ a.2 2 kk 3 = 1 by rw [hrow, hg]; decide)]
      have q1 : sQa a.2 kk 1 (sQa a.2 kk 2 kk 0).toNatClampNeg 1 * 20 = M3 1 (M3 2 kk 0).toNatClampNeg 1 * 20 := by
        unfold sQa
        rw [t1, um_c (by decide), h2, hrow]
      have q2 : sQa a.2 kk 2 kk 2 = M3 2 kk 2 + M3 2 kk 1 / 10 := by
        unfold sQa
        rw [um_e, hrow]
      rw [q1, q2]
      by_cases c : M3 1 (M3 2 kk 0).toNatClampNeg 1 * 20 ≤ M3 2 kk 2 + M3 2 kk 1 / 10
      · have hn : nwB M3 kk = true := by rw [hb, decide_eq_true hg, decide_eq_true c]; rfl
        rw [if_pos c, if_pos hn]
        refine ⟨congrArg (· + 1) h1, ?_, fun p hp => ?_, fun p hp => ?_⟩
        · show sQb (sQa a.2 kk) kk 1 = _
          unfold sQb sQa
          rw [t1, t1, t1, t1]
          exact h2
        · show sQb (sQa a.2 kk) kk 2 p = _
          unfold sQb sQa
          rw [other (by omega), other (by omega), other (by omega), other (by omega)]
          exact h3 p (by omega)
        · show (_ → sQb (sQa a.2 kk) kk 2 p 3 = 1) ∧ (_ → sQb (sQa a.2 kk) kk 2 p 3 = 1) ∧ (_ → _ → sQb (sQa a.2 kk) kk 2 p 3 = 0 ∧ sQb (sQa a.2 kk) kk 2 p 2 = _ + sQb (sQa a.2 kk) kk 2 p 1 / 10)
          by_cases e : p = kk
          · subst e
            have : sQb (sQa a.2 p) p 2 p 3 = 1 := um_e
            exact ⟨fun _ => this, fun _ => this, fun _ h => absurd hn h⟩
          · unfold sQb sQa
            rw [other e, other e, other e, other e]
            exact h4 p (by omega)
      · have hn : ¬ nwB M3 kk = true := by rw [hb, decide_eq_false c, Bool.and_false]; decide
        rw [if_neg c, if_neg hn]
        refine ⟨h1.trans (Int32.add_zero _).symm, ?_, fun p hp => ?_, fun p hp => ?_⟩
        · show sQa a.2 kk 1 = _
          unfold sQa
          rw [t1]
          exact h2
        · show sQa a.2 kk 2 p = _
          unfold sQa
          rw [other (by omega)]
          exact h3 p (by omega)
        · show (_ → sQa a.2 kk 2 p 3 = 1) ∧ (_ → sQa a.2 kk 2 p 3 = 1) ∧ (_ → _ → sQa a.2 kk 2 p 3 = 0 ∧ sQa a.2 kk 2 p 2 = _ + sQa a.2 kk 2 p 1 / 10)
          by_cases e : p = kk
          · subst e
            refine ⟨fun h => absurd (hg.symm.trans h) (by decide), fun h => absurd h hn, fun _ _ => ⟨?_, ?_⟩⟩
            · unfold sQa
              rw [um_c (by decide), hrow]
              exact hg
            · rw [q2]
              unfold sQa
              rw [um_c (by decide), hrow]
          · unfold sQa
            rw [other e]
            exact h4 p (by omega)
    · have hn : ¬ nwB M3 kk = true := by rw [hb, decide_eq_false (by rw [hg]; decide), Bool.false_and]; decide
      rw [if_pos (show a.2 2 kk 3 = 1 by rw [hrow, hg]), if_neg hn]
      refine ⟨h1.trans (Int32.add_zero _).symm, h2, fun p hp => h3 p (by omega), fun p hp => ?_⟩
      by_cases e : p = kk
      · subst e
        exact ⟨fun _ => by rw [hrow]; exact hg, fun h => absurd h hn, fun h => absurd (h.symm.trans hg) (by decide)⟩
      · exact h4 p (by omega)
  obtain ⟨kk, e, h1, h2, h3, h4⟩ := key
  subst e
  exact ⟨h1, h4⟩
end PURE16
