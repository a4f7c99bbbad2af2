/-! PURE: an hour, its flocks and cradles. -/
/-- what the law asks of a flock's row before and after -/
def LF (M : Mm) (n : Nat → Nat) (r r' : Nat → Int32) : Prop := r' 3 - r 3 = (if r' 0 = r 0 then 0 else 1) ∧ (r' 0 < 0 ∨ ∃ k, k < n 2 ∧ r' 0 = nI k ∧ sFr M n (nI k) = true) ∧ (r' 0 < 0 → ∀ k, k < n 2 → sFr M n (nI k) = true → nI k = r 0)
/-- a cradle washes at least one -/
def WP (M : Mm) (n : Nat → Nat) : Prop := ∀ c, c < n 4 → ∃ z, M 4 c 2 = nI z ∧ 1 ≤ z ∧ z ≤ 60
section PURE19
variable {Q A A1 A' Z Z' : Mem} {M M' M3 X : Mm} {n fb : Nat → Nat} {p k b c q f j B m a v : Nat} {w i x y len v' : Int32}
theorem sBe_n (hn : n 2 < 2 ^ 31) (h : sBe M n w < 0) : ∀ k, k < n 2 → sFr M n (nI k) = true → nI k = w := by
  have key : ∀ m b, m ≤ n 2 → itd (sBs M n w) m b < 0 → b < 0 ∧ ∀ k, k < m → sFr M n (nI k) = true → nI k = w := by
    intro m
    induction m with
    | zero => intro b _ h; exact ⟨h, fun k hk => absurd hk (Nat.not_lt_zero _)⟩
    | succ m ih =>
      intro b hm h
      obtain ⟨h1, h2⟩ := ih (sBs M n w m b) (by omega) h
      have hpos : ¬ nI m < 0 := nI_pos (by omega)
      unfold sBs at h1
      by_cases c1 : nI m = w
      · rw [if_pos c1] at h1
        refine ⟨h1, fun k hk hf => ?_⟩
        by_cases e : k = m
        · rw [e]; exact c1
        · exact h2 k (by omega) hf
      rw [if_neg c1] at h1
      by_cases c2 : sFr M n (nI m) = false
      · rw [if_pos c2] at h1
        refine ⟨h1, fun k hk hf => ?_⟩
        by_cases e : k = m
        · subst e; rw [c2] at hf; cases hf
        · exact h2 k (by omega) hf
      rw [if_neg c2] at h1
      by_cases c3 : b < 0
      · rw [if_pos c3] at h1
        exact absurd h1 hpos
      · rw [if_neg c3] at h1
        split at h1
        · exact absurd h1 c3
        · exact absurd h1 hpos
  exact fun k hk => (key (n 2) (-1) (Nat.le_refl _) h).2 k hk
theorem sFr_k (h : KP M X) (h4 : X 4 = M 4) (h0 : X 0 = M 0) : sFr X n w = sFr M n w := by
  have e : sFb X w = sFb M w := by
    funext c a
    unfold sFb
    rw [h4, h0]
  unfold sFr
  rw [e, h.1 _ 3 (by decide)]
theorem fl_row (hn : n 2 < 2 ^ 31) (hV : vS X n) (hq : q < n 5) : LF X n (X 5 q) (sFl X n q 5 q) := by
  unfold LF sFl
  by_cases c : sGo X n q = false
  · rw [if_pos c]
    have h0 : sG0 X n q = false := by
      cases h : sG0 X n q with
      | false => rfl
      | true =>
        unfold sGo at c
        rw [h, sG1_t] at c
        cases c
    unfold sG0 at h0
    split at h0
    · cases h0
    next c1 =>
    split at h0
    · cases h0
    split at h0
    · cases h0
    next c2 c3 =>
    have hfr : sFr X n (X 5 q 0) = true := by
      cases h : sFr X n (X 5 q 0) with
      | false => exact absurd h c3
      | true => rfl
    have hx := (hV.2.1 q hq).2.resolve_left c1
    refine ⟨by rw [if_pos rfl, Int32.sub_self], Or.inr ⟨_, hx.2, hx.1, by rw [← hx.1]; exact hfr⟩, fun h => absurd h c1⟩
  · rw [if_neg c]
    have e0 : ∀ Y : Mm, um Y 5 q 0 (sBe X n (X 5 q 0)) 5 q 0 = sBe X n (X 5 q 0) := fun Y => um_e
    have e3 : ∀ Y : Mm, um Y 5 q 0 (sBe X n (X 5 q 0)) 5 q 3 = Y 5 q 3 := fun Y => um_c (by decide)
    rw [e0, e3]
    refine ⟨?_, ?_, fun h => sBe_n hn h⟩
    · by_cases e : sBe X n (X 5 q 0) = X 5 q 0
      · rw [if_pos e, if_pos e, Int32.sub_self]
      · rw [if_neg e, if_neg e, um_e, Int32.add_comm, Int32.add_sub_cancel]
    · rcases sBe_I (M := X) (w := X 5 q 0) hn with h | h
      · exact Or.inl h
      · rcases sBe_f (M := X) (n := n) (w := X 5 q 0) with h' | h'
        · exact Or.inl h'
        · exact Or.inr ⟨_, h.2, h.1, by rw [← h.1]; exact h'⟩
theorem fl_o (hne : p ≠ q) : sF1 n q X 5 p = X 5 p := by
  have h1 : sFl X n q 5 p = X 5 p := by
    unfold sFl
    split
    · rfl
    · funext j'
      rw [um_x, if_neg (fun e => hne e.1)]
      split
      · rfl
      · rw [um_x, if_neg (fun e => hne e.1)]
  unfold sF1
  split
  · exact h1
  · rw [um_t (by decide)]; exact h1
theorem fl_s : sF1 n q X 5 q = sFl X n q 5 q := by
  unfold sF1
  split
  · rfl
  · rw [um_t (by decide)]
/-- soot and flocks -/
theorem hr_12 (hI : INV Q A M n fb) : ∃ A2, CX Q A2 (sP2 (sP1 M n) n) n fb (1799 + 30 * n 3 + 20 * n 5) ∧ PLs M (sP2 (sP1 M n) n) ∧ WI (sP2 (sP1 M n) n) n ∧ ∀ q, q < n 5 → LF M n (M 5 q) (sP2 (sP1 M n) n 5 q) := by
  obtain ⟨hC, hR, hW, hK⟩ := hI
  have n2 := hC.1.2.1.2.1
  have n3 := hC.1.2.1.2.2.2.1
  have n5 := hC.1.2.1.2.2.2.2.2.1
  have s1 : CX Q (h1L Q A) (sP1 M n) n fb (1799 + 30 * n 3) ∧ PLs M (sP1 M n) := by
    unfold h1L sP1
    rw [hC.1.1.2.2.1, itI_0 (by omega)]
    have := itr_simI (P := fun k A' M' => CX Q A' M' n fb (1799 + 30 * k) ∧ PLs M M' ∧ M' 0 = M 0) (m := n 3) (f := fun k s => soL Q s (nI k)) (g := sC2 n) (fun k A' M' hk hP => by
      obtain ⟨p1, p2, p3⟩ := hP
      obtain ⟨g1, g2, g3, g4⟩ := so_eq (k := k) p1 (SR_s p2 p3 hR) hk (by omega)
      exact ⟨by rw [show 1799 + 30 * (k + 1) = 1799 + 30 * k + 30 by omega]; exact g1, PLs_t p2 g2, g4.trans p3⟩) (n 3) 0 A M (by omega) ⟨hC, PLs_r, rfl⟩
    exact ⟨this.1, this.2.1⟩
  obtain ⟨k1, k4, k5, k0⟩ := KP_1 (M := M) (n := n)
  revert s1
  generalize h1L Q A = A1
  rintro ⟨c1, pl1⟩
  have w1 : WI (sP1 M n) n := by
    unfold WI
    rw [k4]
    exact hW
  generalize sP1 M n = M1 at *
  have hR1 := SR_s pl1 k0 hR
  have s2 : CX Q (h2L Q A1) (sP2 M1 n) n fb (1799 + 30 * n 3 + 20 * n 5) ∧ PLs M1 (sP2 M1 n) ∧ KP M (sP2 M1 n) ∧ sP2 M1 n 4 = M 4 ∧ sP2 M1 n 0 = M 0 ∧ (∀ q, n 5 ≤ q → sP2 M1 n 5 q = M 5 q) ∧ ∀ q, q < n 5 → LF M n (M 5 q) (sP2 M1 n 5 q) := by
    unfold h2L sP2
    rw [hC.1.1.2.2.2.2.1, itI_0 (by omega)]
    refine itr_simI (P := fun k A' M' => CX Q A' M' n fb (1799 + 30 * n 3 + 20 * k) ∧ PLs M1 M' ∧ KP M M' ∧ M' 4 = M 4 ∧ M' 0 = M 0 ∧ (∀ q, k ≤ q → M' 5 q = M 5 q) ∧ ∀ q, q < k → LF M n (M 5 q) (M' 5 q)) (m := n 5) (fun k A' M' hk hP => ?_) (n 5) 0 A1 M1 (by omega) ⟨c1, PLs_r, k1, k4, k0, fun q _ => by rw [k5], fun q hq => absurd hq (Nat.not_lt_zero _)⟩
    obtain ⟨p1, p2, p3, p4, p5, p6, p7⟩ := hP
    have hRk := SR_s p2 (p5.trans k0.symm) hR1
    obtain ⟨b, e, hb, hb2, he, he0, he2⟩ := hRk.2.2.1 k hk
    obtain ⟨g1, g2, g3, g4⟩ := mf_eq (f := k) p1 hk (by rw [he]; exact nI_nle he0 (by omega)) hb hb2 (by omega)
    obtain ⟨f1, f2, f3⟩ := KP_f1 (M := M') (n := n) (q := k)
    refine ⟨by rw [show 1799 + 30 * n 3 + 20 * (k + 1) = 1799 + 30 * n 3 + 20 * k + 20 by omega]; exact g1, PLs_t p2 g2, KP_t p3 f1, f2.trans p4, f3.trans p5, fun q hq => ?_, fun q hq => ?_⟩
    · rw [fl_o (show q ≠ k by omega)]
      exact p6 q (by omega)
    · by_cases e : q = k
      · subst e
        have h := fl_row (n := n) (q := q) (by omega) p1.2.2.2.2.2.2.1 hk
        rw [← fl_s, p6 q (Nat.le_refl _)] at h
        unfold LF at h ⊢
        simp only [sFr_k p3 p4 p5] at h
        exact h
      · rw [fl_o e]
        exact p7 q (by omega)
  obtain ⟨t1, t2, t3, t4, t5, -, t7⟩ := s2
  refine ⟨h2L Q A1, t1, PLs_t pl1 t2, ?_, t7⟩
  unfold WI
  rw [t4]
  exact hW
end PURE19
