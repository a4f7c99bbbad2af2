/-! PURE: the order of the worst. -/
def cnt (P : Nat → Bool) : Nat → Nat
  | 0 => 0
  | m + 1 => cnt P m + if P m = true then 1 else 0
theorem cnt_s {P : Nat → Bool} {m : Nat} : cnt P (m + 1) = cnt P m + if P m = true then 1 else 0 := rfl
theorem cnt_le {P R : Nat → Bool} : ∀ {m : Nat}, (∀ k, k < m → P k = true → R k = true) → cnt P m ≤ cnt R m
  | 0, _ => Nat.le_refl _
  | m + 1, h => by
    have h1 := cnt_le (P := P) (R := R) (m := m) (fun k hk => h k (by omega))
    have h2 := h m (by omega)
    rw [cnt_s, cnt_s]
    by_cases c : P m = true
    · rw [if_pos c, if_pos (h2 c)]; omega
    · rw [if_neg c]; omega
theorem cnt_lt {P R : Nat → Bool} {j : Nat} : ∀ {m : Nat}, (∀ k, k < m → P k = true → R k = true) → j < m → R j = true → ¬ P j = true → cnt P m < cnt R m
  | 0, _, h, _, _ => by omega
  | m + 1, h, hj, hr, hp => by
    have h2 := h m (by omega)
    rw [cnt_s, cnt_s]
    by_cases e : j = m
    · subst e
      have h1 := cnt_le (P := P) (R := R) (m := j) (fun k hk => h k (by omega))
      rw [if_neg hp, if_pos hr]
      omega
    · have h1 := cnt_lt (P := P) (R := R) (m := m) (fun k hk => h k (by omega)) (show j < m by omega) hr hp
      by_cases c : P m = true
      · rw [if_pos c, if_pos (h2 c)]; omega
      · rw [if_neg c]; omega
/-- no more than there are holes -/
theorem cnt_ph {st : Nat → Bool} : ∀ (N : Nat) (f : Nat → Nat) (m : Nat), (∀ p, p < N → st p = true → f p < m) → (∀ p q, p < N → q < N → st p = true → st q = true → f p = f q → p = q) → cnt st N ≤ m
  | 0, _, _, _, _ => Nat.zero_le _
  | N + 1, f, m, h1, h2 => by
    rw [cnt_s]
    by_cases c : st N = true
    · rw [if_pos c]
      have hN := h1 N (by omega) c
      have ih := cnt_ph N (fun p => if f N < f p then f p - 1 else f p) (m - 1) (fun p hp hs => by
        have a1 := h1 p (by omega) hs
        have a2 : f p ≠ f N := fun e => by have := h2 p N (by omega) (by omega) hs c e; omega
        show (if f N < f p then f p - 1 else f p) < m - 1
        split <;> omega) (fun p q hp hq hs ht e => by
        have a2 : f p ≠ f N := fun e => by have := h2 p N (by omega) (by omega) hs c e; omega
        have a3 : f q ≠ f N := fun e => by have := h2 q N (by omega) (by omega) ht c e; omega
        refine h2 p q (by omega) (by omega) hs ht ?_
        split at e <;> split at e <;> omega)
      omega
    · rw [if_neg c]
      exact cnt_ph N f m (fun p hp => h1 p (by omega)) (fun p q hp hq => h2 p q (by omega) (by omega))
theorem cnt_onto {st : Nat → Bool} {N m v : Nat} {f : Nat → Nat} (h1 : ∀ p, p < N → st p = true → f p < m) (h2 : ∀ p q, p < N → q < N → st p = true → st q = true → f p = f q → p = q) (hm : m ≤ cnt st N) (hv : v < m) : ∃ p, p < N ∧ st p = true ∧ f p = v := by
  refine Classical.byContradiction fun hno => ?_
  have hne : ∀ p, p < N → st p = true → f p ≠ v := fun p hp hs e => hno ⟨p, hp, hs, e⟩
  have := cnt_ph (st := st) N (fun p => if v < f p then f p - 1 else f p) (m - 1) (fun p hp hs => by
    have a1 := h1 p hp hs
    have a2 := hne p hp hs
    show (if v < f p then f p - 1 else f p) < m - 1
    split <;> omega) (fun p q hp hq hs ht e => by
    have a2 := hne p hp hs
    have a3 := hne q hq ht
    refine h2 p q hp hq hs ht ?_
    split at e <;> split at e <;> omega)
  omega
/-- standing; before -/
def stB (M : Mm) (k : Nat) : Bool := decide (M 2 k 3 = 0)
def bfB (D : Nat → Nat) (k p : Nat) : Bool := decide (D p < D k) || (decide (D k = D p) && decide (k < p))
theorem bfB_t {D : Nat → Nat} {k p : Nat} : (bfB D k p = true) = (D p < D k ∨ (D k = D p ∧ k < p)) := by
  unfold bfB
  simp
section PURE15
variable {Q A A1 A' Z Z' : Mem} {M M' : Mm} {n fb : Nat → Nat} {p k b c q f j B m a v : Nat} {w i x y len : Int32} {D : Nat → Nat}
def rkB (M : Mm) (D : Nat → Nat) (N p : Nat) : Nat := cnt (fun k => stB M k && bfB D k p) N
theorem rk_lt {N : Nat} (ha : a < N) (hs : stB M a = true) (hb : bfB D a b = true) : rkB M D N a < rkB M D N b := by
  refine cnt_lt (j := a) (fun k _ h => ?_) ha ?_ ?_
  · rw [Bool.and_eq_true, bfB_t] at h ⊢
    rw [bfB_t] at hb
    exact ⟨h.1, by omega⟩
  · rw [Bool.and_eq_true]
    exact ⟨hs, hb⟩
  · intro h
    rw [Bool.and_eq_true, bfB_t] at h
    omega
theorem rk_m {N : Nat} (ha : a < N) (hs : stB M a = true) : rkB M D N a < cnt (stB M) N := by
  refine cnt_lt (j := a) (fun k _ h => ?_) ha hs ?_
  · rw [Bool.and_eq_true] at h
    exact h.1
  · intro h
    rw [Bool.and_eq_true, bfB_t] at h
    omega
theorem rk_inj {N : Nat} (ha : a < N) (hb : b < N) (hs : stB M a = true) (ht : stB M b = true) (e : rkB M D N a = rkB M D N b) : a = b := by
  refine Classical.byContradiction fun hne => ?_
  by_cases c : D b < D a ∨ (D a = D b ∧ a < b)
  · have := rk_lt (D := D) (b := b) ha hs (by rw [bfB_t]; exact c)
    omega
  · have := rk_lt (D := D) (b := a) hb ht (by rw [bfB_t]; omega)
    omega
theorem INV_D (hI : INV Q A M n fb) : ∃ D : Nat → Nat, ∀ p, p < n 2 → M 2 p 1 = nI (D p) ∧ D p ≤ 1799 := by
  refine ⟨fun p => (M 2 p 1).toNatClampNeg, fun p hp => ?_⟩
  obtain ⟨⟨x, h1, h2⟩, -⟩ := hI.1.2.2.2.2.1 p hp
  show M 2 p 1 = nI (M 2 p 1).toNatClampNeg ∧ (M 2 p 1).toNatClampNeg ≤ 1799
  rw [h1, nI_clamp (by omega)]
  exact ⟨rfl, h2⟩
theorem pl_n (hI : INV Q A M n fb) : plL Q A = nI (cnt (stB M) (n 2)) := by
  have n2 := hI.1.1.2.1.2.1
  unfold plL
  rw [hI.1.1.1.2.1, itI_0 (by omega)]
  refine itr_simI (P := fun k (s : Int32) (_ : Unit) => s = nI (cnt (stB M) k)) (g := fun _ u => u) (m := n 2) (fun k s u hk h => ?_) (n 2) 0 0 () (by omega) rfl
  unfold plS
  rw [whL_k hI.1.1 hI.1.2.1 hk, h, cnt_s]
  show (if decide (M 2 k 3 = 0) = false then _ else _) = nI (_ + if decide (M 2 k 3 = 0) = true then 1 else 0)
  by_cases c : M 2 k 3 = 0
  · rw [decide_eq_true c, if_neg (by decide), if_pos rfl]
    exact nI_add _ 1
  · rw [decide_eq_false c, if_pos rfl, if_neg (by decide)]
    rfl
theorem pa_n (hI : INV Q A M n fb) (hD : ∀ p, p < n 2 → M 2 p 1 = nI (D p) ∧ D p ≤ 1799) (hp : p < n 2) : paL Q A (nI p) = nI (rkB M D (n 2) p) := by
  have n2 := hI.1.1.2.1.2.1
  have row : ∀ k, k < n 2 → ca 40 (A 1) (nI k) = nI (D k) := fun k hk => by
    rw [ca_n (by omega) (by decide), (hI.1.2.1.2.1 k hk).1]
    exact (hD k hk).1
  unfold paL rkB
  rw [hI.1.1.1.2.1, itI_0 (by omega)]
  refine itr_simI (P := fun k (s : Int32) (_ : Unit) => s = nI (cnt (fun k => stB M k && bfB D k p) k)) (g := fun _ u => u) (m := n 2) (fun k s u hk h => ?_) (n 2) 0 0 () (by omega) rfl
  have hdk := (hD k hk).2
  have hdp := (hD p hp).2
  unfold paS
  rw [whL_k hI.1.1 hI.1.2.1 hk, h, cnt_s, row k hk, row p hp]
  show (if decide (M 2 k 3 = 0) = false then _ else _) = nI (_ + if (decide (M 2 k 3 = 0) && bfB D k p) = true then 1 else 0)
  have ad : ∀ z : Nat, nI z + 1 = nI (z + 1) := fun z => nI_add z 1
  by_cases c : M 2 k 3 = 0
  · rw [decide_eq_true c, if_neg (by decide), Bool.true_and]
    by_cases c1 : D p < D k
    · rw [if_pos (nI_lt c1 (by omega)), if_pos (by rw [bfB_t]; exact Or.inl c1)]
      exact ad _
    · rw [if_neg (nI_nlt (by omega) (by omega))]
      by_cases c2 : D k = D p
      · rw [c2, if_neg (not_not_intro rfl)]
        by_cases c3 : p ≤ k
        · rw [if_pos (nI_le c3 (by omega)), if_neg (by rw [bfB_t]; omega)]
          rfl
        · rw [if_neg (nI_ge (show k < p by omega) (by omega)), if_pos (by rw [bfB_t]; omega)]
          exact ad _
      · rw [if_pos (fun e => c2 ((nI_eq (by omega) (by omega)).mp e)), if_neg (by rw [bfB_t]; omega)]
        rfl
  · rw [decide_eq_false c, if_pos rfl, if_neg (by rw [Bool.false_and]; decide)]
    rfl
theorem itx_hit {f : Nat → Unit → Int32 ⊕ Unit} : ∀ m k, (∃ j, k ≤ j ∧ j < k + m ∧ ∃ r, f j () = .inl r) → ∃ j r, k ≤ j ∧ j < k + m ∧ f j () = .inl r ∧ itx f k m () = .inl r
  | 0, k, ⟨j, h1, h2, _⟩ => by omega
  | m + 1, k, ⟨j, h1, h2, r, h3⟩ => by
    cases e : f k () with
    | inl r' => exact ⟨k, r', Nat.le_refl _, by omega, e, itx_l e⟩
    | inr s =>
      have : j ≠ k := fun q => by subst q; rw [h3] at e; cases e
      obtain ⟨j', r', a1, a2, a3, a4⟩ := itx_hit m (k + 1) ⟨j, by omega, by omega, r, h3⟩
      exact ⟨j', r', by omega, by omega, a3, (itx_r e).trans a4⟩
/-- the v-th worst -/
theorem pi_n (hI : INV Q A M n fb) (hD : ∀ p, p < n 2 → M 2 p 1 = nI (D p) ∧ D p ≤ 1799) (hv : v < cnt (stB M) (n 2)) : ∃ a, a < n 2 ∧ piL Q A (nI v) = nI a ∧ M 2 a 3 = 0 ∧ rkB M D (n 2) a = v := by
  have n2 := hI.1.1.2.1.2.1
  have hle : ∀ N, cnt (stB M) N ≤ N := by
    intro N
    induction N with
    | zero => exact Nat.le_refl _
    | succ N ih => rw [cnt_s]; split <;> omega
  have hm := hle (n 2)
  obtain ⟨a, h1, h2, h3⟩ := cnt_onto (st := stB M) (f := rkB M D (n 2)) (fun p hp hs => rk_m hp hs) (fun p q hp hq hs ht e => rk_inj hp hq hs ht e) (Nat.le_refl _) hv
  have hS : ∀ k, k < n 2 → piS Q A (nI v) (nI k) = if M 2 k 3 = 0 ∧ rkB M D (n 2) k = v then .inl (nI k) else .inr () := by
    intro k hk
    unfold piS
    rw [whL_k hI.1.1 hI.1.2.1 hk, pa_n hI hD hk]
    by_cases c : M 2 k 3 = 0
    · have hr : rkB M D (n 2) k < n 2 := Nat.lt_of_lt_of_le (rk_m hk (decide_eq_true c)) hm
      rw [decide_eq_true c, if_neg (by decide)]
      by_cases c2 : rkB M D (n 2) k = v
      · rw [c2, if_neg (not_not_intro rfl), if_pos ⟨c, rfl⟩]
      · rw [if_pos (fun e => c2 ((nI_eq (by omega) (by omega)).mp e)), if_neg (fun e => c2 e.2)]
    · rw [decide_eq_false c, if_pos rfl, if_neg (fun e => c e.1)]
  obtain ⟨j, r, g1, g2, g3, g4⟩ := itx_hit (f := fun k (_ : Unit) => piS Q A (nI v) (nI k)) (n 2) 0 ⟨a, Nat.zero_le _, by omega, nI a, by
    show piS Q A (nI v) (nI a) = _
    rw [hS a h1, if_pos ⟨of_decide_eq_true h2, h3⟩]⟩
  have g3 : piS Q A (nI v) (nI j) = .inl r := g3
  rw [hS j (by omega)] at g3
  by_cases c : M 2 j 3 = 0 ∧ rkB M D (n 2) j = v
  · rw [if_pos c] at g3
    cases g3
    refine ⟨j, by omega, ?_, c.1, c.2⟩
    unfold piL
    rw [hI.1.1.1.2.1, itxI_0 (by omega)]
    rw [g4]
    rfl
  · rw [if_neg c] at g3
    cases g3
/-- two neighbours among the worst -/
theorem worst_law (hI : INV Q A M n fb) (hv : v + 1 < cnt (stB M) (n 2)) : ∃ a b, a < n 2 ∧ b < n 2 ∧ piL Q A (nI v) = nI a ∧ piL Q A (nI v + 1) = nI b ∧ M 2 a 3 = 0 ∧ ¬ M 2 a 1 < M 2 b 1 ∧ (M 2 a 1 = M 2 b 1 → nI a ≤ nI b) := by
  have n2 := hI.1.1.2.1.2.1
  obtain ⟨D, hD⟩ := INV_D hI
  obtain ⟨a, a1, a2, a3, a4⟩ := pi_n hI hD (show v < _ by omega)
  obtain ⟨b, b1, b2, b3, b4⟩ := pi_n hI hD hv
  have e : nI v + 1 = nI (v + 1) := nI_add v 1
  have hda := (hD a a1).2
  have hdb := (hD b b1).2
  have hn : ¬ bfB D b a = true := fun h => by
    have := rk_lt (M := M) (D := D) b1 (decide_eq_true b3) h
    omega
  rw [bfB_t] at hn
  refine ⟨a, b, a1, b1, a2, by rw [e]; exact b2, a3, by rw [(hD a a1).1, (hD b b1).1]; exact nI_nlt (by omega) (by omega), fun h => ?_⟩
  rw [(hD a a1).1, (hD b b1).1] at h
  have := (nI_eq (by omega) (by omega)).mp h
  exact nI_le (by omega) (by omega)
end PURE15
