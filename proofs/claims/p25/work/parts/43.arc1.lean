/-! ARCADE: small methods, as they stand (written by gen43.py). -/
/-- how many numbers from i on are less than to -/
def rng (i to : Int32) : Nat := (to.toInt - i.toInt).toNat
def itI {S : Type} (f : Int32 → S → S) : Int32 → Nat → S → S
  | _, 0, s => s
  | i, m + 1, s => itI f (i + 1) m (f i s)
def itxI {S R : Type} (f : Int32 → S → R ⊕ S) : Int32 → Nat → S → R ⊕ S
  | _, 0, s => .inr s
  | i, m + 1, s => match f i s with
    | .inl r => .inl r
    | .inr s' => itxI f (i + 1) m s'
theorem i32_suc {i to : Int32} (h : ¬ to ≤ i) : (i + 1).toInt = i.toInt + 1 := by
  rw [Int32.le_iff_toInt_le] at h
  have h1 := to.toInt_lt
  have h2 := i.le_toInt
  rw [Int32.toInt_add, show (1 : Int32).toInt = 1 from rfl]
  exact Int.bmod_eq_of_le (by omega) (by omega)
theorem rng_end {i to : Int32} (h : to ≤ i) : rng i to = 0 := by
  rw [Int32.le_iff_toInt_le] at h
  unfold rng
  omega
theorem rng_suc {i to : Int32} (h : ¬ to ≤ i) : rng i to = rng (i + 1) to + 1 := by
  have := i32_suc h
  rw [Int32.le_iff_toInt_le] at h
  unfold rng
  omega
theorem lpJ {J S T : Type} {X : J → Int32 → S → T} {E : S → T} {to : Int32} {f : Int32 → S → S} (step : ∀ j i s, ¬ to ≤ i → ∃ j', X j i s = X j' (i + 1) (f i s)) (ex : ∀ j i s, to ≤ i → X j i s = E s) (j : J) (i : Int32) (s : S) : X j i s = E (itI f i (rng i to) s) := by
  suffices key : ∀ m j i s, rng i to = m → X j i s = E (itI f i m s) from key _ j i s rfl
  intro m
  induction m with
  | zero =>
    intro j i s e
    have h : to ≤ i := by
      rw [Int32.le_iff_toInt_le]
      unfold rng at e
      omega
    exact ex j i s h
  | succ m ih =>
    intro j i s e
    have h : ¬ to ≤ i := fun h => by rw [rng_end h] at e; cases e
    obtain ⟨j', e'⟩ := step j i s h
    rw [e', ih j' (i + 1) (f i s) (by rw [rng_suc h] at e; omega)]
    rfl
theorem lp0 {S T : Type} {X : Int32 → S → T} {E : S → T} {to : Int32} {f : Int32 → S → S} (step : ∀ i s, ¬ to ≤ i → X i s = X (i + 1) (f i s)) (ex : ∀ i s, to ≤ i → X i s = E s) (i : Int32) (s : S) : X i s = E (itI f i (rng i to) s) :=
  lpJ (J := Unit) (X := fun _ => X) (fun _ i s h => ⟨(), step i s h⟩) (fun _ => ex) () i s
def xit {R S T : Type} (E : R → T) (X : S → T) : R ⊕ S → T
  | .inl r => E r
  | .inr s => X s
theorem lpxJ {J S R T : Type} {X : J → Int32 → S → T} {E : R → T} {F : S → T} {to : Int32} {f : Int32 → S → R ⊕ S} (step : ∀ j i s, ¬ to ≤ i → ∃ j', X j i s = xit E (X j' (i + 1)) (f i s)) (ex : ∀ j i s, to ≤ i → X j i s = F s) (j : J) (i : Int32) (s : S) : X j i s = xit E F (itxI f i (rng i to) s) := by
  suffices key : ∀ m j i s, rng i to = m → X j i s = xit E F (itxI f i m s) from key _ j i s rfl
  intro m
  induction m with
  | zero =>
    intro j i s e
    have h : to ≤ i := by
      rw [Int32.le_iff_toInt_le]
      unfold rng at e
      omega
    exact ex j i s h
  | succ m ih =>
    intro j i s e
    have h : ¬ to ≤ i := fun h => by rw [rng_end h] at e; cases e
    obtain ⟨j', e'⟩ := step j i s h
    rw [e']
    unfold itxI
    cases f i s with
    | inl r => rfl
    | inr s' => exact ih j' (i + 1) s' (by rw [rng_suc h] at e; omega)
theorem lpx0 {S R T : Type} {X : Int32 → S → T} {E : R → T} {F : S → T} {to : Int32} {f : Int32 → S → R ⊕ S} (step : ∀ i s, ¬ to ≤ i → X i s = xit E (X (i + 1)) (f i s)) (ex : ∀ i s, to ≤ i → X i s = F s) (i : Int32) (s : S) : X i s = xit E F (itxI f i (rng i to) s) :=
  lpxJ (J := Unit) (X := fun _ => X) (fun _ i s h => ⟨(), step i s h⟩) (fun _ => ex) () i s
section MEM
variable {A : Mem} {a b n i j : Nat} {v x : Int32}
theorem sm_ne (h : b ≠ a) : (sm A a i v) b = A b := if_neg h
theorem sm_eq : (sm A a i v) a = upd (A a) i v := if_pos rfl
theorem upd_eq {f : Nat → Int32} : upd f i v i = v := if_pos rfl
theorem upd_ne {f : Nat → Int32} (h : j ≠ i) : upd f i v j = f j := if_neg h
theorem sp_ne {x : Int32} (h : b ≠ a) : (sp A a n x v) b = A b := by
  unfold sp
  split
  · exact sm_ne h
  · rfl
theorem flm_ne (h : b ≠ a) : (flm A a n v) b = A b := if_neg h
theorem cpm_ne {F : Nat → Int32} (h : b ≠ a) : (cpm A a n F) b = A b := if_neg h
end MEM
section ARC
variable {fv : Value} {d : Nat} {h : ix_H} {pl t : Nat} {Q A : Mem} {p i e v a b c : Int32}
def diL (a b : Int32) : Int32 := if a ≤ b then b - a else a - b
theorem m26 {hh : ix_H} : xe (ixP fv) d 26 0 [some (.int a), some (.int b)] [] hh = some (.inl (some (.int (diL a b))), hh) := by
  unfold diL
  by_cases c1 : a ≤ b <;> simp only [q26_0, q26_1, q26_2, q26_5, q26_6, q26_7, q26_8, q26_11, q26_12, q26_13, q26_14 (st := []), i10, eq_self, ft0, ft1, b01_ft, k1r, k1i, xG_some, xH_some, xC_v, xC_n, if_true, if_false, not_true_eq_false, not_false_eq_true, ix_st, ix_st2, List.getElem?_cons_succ, List.getElem?_cons_zero, List.set_cons_succ, List.set_cons_zero, Value.category, List.map_cons, List.map_nil, List.sum_cons, List.sum_nil, Nat.reduceAdd, Nat.reduceLeDiff, Nat.reduceEqDiff, Nat.zero_le, reduceCtorEq, reduceIte, c1]
theorem m29 {hh : ix_H} {q : Bool} : xe (ixP fv) d 29 0 [some (.int (b01 q))] [] hh = some (.inl (some (.int (b01 q))), hh) := by
  cases q <;> simp only [q29_0, q29_1, q29_4, q29_5, q29_8, q29_9 (st := []), i10, eq_self, ft0, ft1, b01_ft, k1r, k1i, xG_some, xH_some, xC_v, xC_n, if_true, if_false, not_true_eq_false, not_false_eq_true, ix_st, ix_st2, List.getElem?_cons_succ, List.getElem?_cons_zero, List.set_cons_succ, List.set_cons_zero, Value.category, List.map_cons, List.map_nil, List.sum_cons, List.sum_nil, Nat.reduceAdd, Nat.reduceLeDiff, Nat.reduceEqDiff, Nat.zero_le, reduceCtorEq, reduceIte, b01_t, b01_f] <;> rfl
def puL (A : Mem) (v : Int32) : Mem := sm (sp A 9 400 (A 0 4) v) 0 4 (A 0 4 + 1)
theorem m30 (g : gA h pl t) : xe (ixP fv) (d + 1) 30 0 [some (.ref t), some (.int v)] [] (wAr h pl t Q A) = some (.inl none, wAr h pl t Q (puL A v)) := by
  simp only [q30_0, q30_1, q30_4, q30_5, q30_8, q30_9, q30_12, q30_13, q30_14, q30_17, q30_18, q30_19, q30_22 (st := []), i10, eq_self, ft0, ft1, b01_ft, k1r, k1i, xG_some, xH_some, xC_v, xC_n, if_true, if_false, not_true_eq_false, not_false_eq_true, ix_st, ix_st2, List.getElem?_cons_succ, List.getElem?_cons_zero, List.set_cons_succ, List.set_cons_zero, Value.category, List.map_cons, List.map_nil, List.sum_cons, List.sum_nil, Nat.reduceAdd, Nat.reduceLeDiff, Nat.reduceEqDiff, Nat.zero_le, reduceCtorEq, reduceIte, sm_ne, sm_eq, upd_eq, upd_ne, sp_ne, flm_ne, cpm_ne, ne_eq, rAa14 g, rAa13 g, wAra14 g, m117 (iA9 g) (oA9 g), pA9 g]
  rfl
def ppL (A : Mem) : Mem := if A 0 4 ≤ 0 then A else sm A 0 4 (A 0 4 - 1)
def poL (A : Mem) : Int32 := ca 400 (ppL A 9) (ppL A 0 4)
theorem m31 (g : gA h pl t) : xe (ixP fv) (d + 1) 31 0 [some (.ref t)] [] (wAr h pl t Q A) = some (.inl (some (.int (poL A))), wAr h pl t Q (ppL A)) := by
  unfold poL ppL
  by_cases c1 : A 0 4 ≤ 0 <;> simp only [q31_0, q31_1, q31_4, q31_7, q31_8, q31_9, q31_12, q31_13, q31_14, q31_17, q31_18, q31_21, q31_22, q31_25, q31_28 (st := []), i10, eq_self, ft0, ft1, b01_ft, k1r, k1i, xG_some, xH_some, xC_v, xC_n, if_true, if_false, not_true_eq_false, not_false_eq_true, ix_st, ix_st2, List.getElem?_cons_succ, List.getElem?_cons_zero, List.set_cons_succ, List.set_cons_zero, Value.category, List.map_cons, List.map_nil, List.sum_cons, List.sum_nil, Nat.reduceAdd, Nat.reduceLeDiff, Nat.reduceEqDiff, Nat.zero_le, reduceCtorEq, reduceIte, sm_ne, sm_eq, upd_eq, upd_ne, sp_ne, flm_ne, cpm_ne, ne_eq, c1, rAa14 g, rAa13 g, wAra14 g, m115 (iA9 g), cA9 g]
def hoL (A : Mem) (e : Int32) : Bool := if e ≤ 0 then false else if ¬ A 0 0 - A 0 0 / e * e = 0 then false else true
theorem m14 (g : gA h pl t) : xe (ixP fv) d 14 0 [some (.ref t), some (.int e)] [] (wAr h pl t Q A) = some (.inl (some (.int (b01 (hoL A e)))), wAr h pl t Q A) := by
  unfold hoL
  by_cases c1 : e ≤ 0
  · simp only [q14_0, q14_1, q14_4, q14_5, q14_8, q14_9, q14_10, q14_13, q14_14, q14_17, q14_18 (st := []), i10, eq_self, ft0, ft1, b01_ft, k1r, k1i, xG_some, xH_some, xC_v, xC_n, if_true, if_false, not_true_eq_false, not_false_eq_true, ix_st, ix_st2, List.getElem?_cons_succ, List.getElem?_cons_zero, List.set_cons_succ, List.set_cons_zero, Value.category, List.map_cons, List.map_nil, List.sum_cons, List.sum_nil, Nat.reduceAdd, Nat.reduceLeDiff, Nat.reduceEqDiff, Nat.zero_le, reduceCtorEq, reduceIte, c1, rAa1 g, b01_f, b01_ft false]
    all_goals exact q14_18 (st := []) (b01_ft false)
  · have c0 : e ≠ 0 := fun q => c1 (by rw [q]; decide)
    by_cases c2 : A 0 0 - A 0 0 / e * e = 0
    · simp only [q14_0, q14_1, q14_4, q14_5, q14_8, q14_9, q14_10, q14_13, q14_14, q14_17, i10, eq_self, ft0, ft1, b01_ft, k1r, k1i, xG_some, xH_some, xC_v, xC_n, if_true, if_false, not_true_eq_false, not_false_eq_true, ix_st, ix_st2, List.getElem?_cons_succ, List.getElem?_cons_zero, List.set_cons_succ, List.set_cons_zero, Value.category, List.map_cons, List.map_nil, List.sum_cons, List.sum_nil, Nat.reduceAdd, Nat.reduceLeDiff, Nat.reduceEqDiff, Nat.zero_le, reduceCtorEq, reduceIte, c1, c2, rAa1 g, q14_9 c0, b01_t]
      all_goals exact q14_18 (st := []) (b01_ft true)
    · simp only [q14_0, q14_1, q14_4, q14_5, q14_8, q14_9, q14_10, q14_13, q14_14, q14_17, i10, eq_self, ft0, ft1, b01_ft, k1r, k1i, xG_some, xH_some, xC_v, xC_n, if_true, if_false, not_true_eq_false, not_false_eq_true, ix_st, ix_st2, List.getElem?_cons_succ, List.getElem?_cons_zero, List.set_cons_succ, List.set_cons_zero, Value.category, List.map_cons, List.map_nil, List.sum_cons, List.sum_nil, Nat.reduceAdd, Nat.reduceLeDiff, Nat.reduceEqDiff, Nat.zero_le, reduceCtorEq, reduceIte, c1, c2, rAa1 g, q14_9 c0, b01_f]
      all_goals exact q14_18 (st := []) (b01_ft false)
def whL (Q A : Mem) (p : Int32) : Bool := if p < 0 then false else if Q 0 1 ≤ p then false else if ¬ ca 40 (A 3) p = 0 then false else true
theorem m15 (g : gA h pl t) : xe (ixP fv) (d + 1) 15 0 [some (.ref t), some (.int p)] [] (wAr h pl t Q A) = some (.inl (some (.int (b01 (whL Q A p)))), wAr h pl t Q A) := by
  unfold whL
  by_cases c1 : p < 0
  · simp only [q15_0, q15_1, q15_4, q15_5, q15_6, q15_9, q15_12, q15_15, q15_16, q15_19, q15_20, q15_23, q15_26, q15_27, q15_30, i10, eq_self, ft0, ft1, b01_ft, k1r, k1i, xG_some, xH_some, xC_v, xC_n, if_true, if_false, not_true_eq_false, not_false_eq_true, ix_st, ix_st2, List.getElem?_cons_succ, List.getElem?_cons_zero, List.set_cons_succ, List.set_cons_zero, Value.category, List.map_cons, List.map_nil, List.sum_cons, List.sum_nil, Nat.reduceAdd, Nat.reduceLeDiff, Nat.reduceEqDiff, Nat.zero_le, reduceCtorEq, reduceIte, c1, b01_f]
    all_goals exact q15_31 (st := []) (b01_ft false)
  by_cases c2 : Q 0 1 ≤ p
  · simp only [q15_0, q15_1, q15_4, q15_5, q15_6, q15_9, q15_12, q15_15, q15_16, q15_19, q15_20, q15_23, q15_26, q15_27, q15_30, i10, eq_self, ft0, ft1, b01_ft, k1r, k1i, xG_some, xH_some, xC_v, xC_n, if_true, if_false, not_true_eq_false, not_false_eq_true, ix_st, ix_st2, List.getElem?_cons_succ, List.getElem?_cons_zero, List.set_cons_succ, List.set_cons_zero, Value.category, List.map_cons, List.map_nil, List.sum_cons, List.sum_nil, Nat.reduceAdd, Nat.reduceLeDiff, Nat.reduceEqDiff, Nat.zero_le, reduceCtorEq, reduceIte, c1, c2, rAa0 g, rAp4 g, b01_f]
    all_goals exact q15_31 (st := []) (b01_ft false)
  by_cases c3 : ca 40 (A 3) p = 0
  · simp only [q15_0, q15_1, q15_4, q15_5, q15_6, q15_9, q15_12, q15_15, q15_16, q15_19, q15_20, q15_23, q15_26, q15_27, q15_30, i10, eq_self, ft0, ft1, b01_ft, k1r, k1i, xG_some, xH_some, xC_v, xC_n, if_true, if_false, not_true_eq_false, not_false_eq_true, ix_st, ix_st2, List.getElem?_cons_succ, List.getElem?_cons_zero, List.set_cons_succ, List.set_cons_zero, Value.category, List.map_cons, List.map_nil, List.sum_cons, List.sum_nil, Nat.reduceAdd, Nat.reduceLeDiff, Nat.reduceEqDiff, Nat.zero_le, reduceCtorEq, reduceIte, c1, c2, c3, rAa0 g, rAp4 g, rAa7 g, m115 (iA3 g), cA3 g, b01_t]
    all_goals exact q15_31 (st := []) (b01_ft true)
  · simp only [q15_0, q15_1, q15_4, q15_5, q15_6, q15_9, q15_12, q15_15, q15_16, q15_19, q15_20, q15_23, q15_26, q15_27, q15_30, i10, eq_self, ft0, ft1, b01_ft, k1r, k1i, xG_some, xH_some, xC_v, xC_n, if_true, if_false, not_true_eq_false, not_false_eq_true, ix_st, ix_st2, List.getElem?_cons_succ, List.getElem?_cons_zero, List.set_cons_succ, List.set_cons_zero, Value.category, List.map_cons, List.map_nil, List.sum_cons, List.sum_nil, Nat.reduceAdd, Nat.reduceLeDiff, Nat.reduceEqDiff, Nat.zero_le, reduceCtorEq, reduceIte, c1, c2, c3, rAa0 g, rAp4 g, rAa7 g, m115 (iA3 g), cA3 g, b01_f]
    all_goals exact q15_31 (st := []) (b01_ft false)
end ARC
