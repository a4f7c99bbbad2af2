/-! PURE: reckoning over compiled orders. -/
/-- the stack holds these, the last one first; all else is as in A0 -/
def SK (A0 A : Mem) (vs : List Int32) : Prop := A 0 4 = nI vs.length ∧ (∀ j, j < vs.length → vs[vs.length - 1 - j]? = some (A 9 j)) ∧ (∀ k, k ≠ 0 → k ≠ 9 → A k = A0 k) ∧ (∀ j, j ≠ 4 → A 0 j = A0 0 j)
/-- one sign over the stack -/
def opS (Q A0 : Mem) (x : Int32 × Int32) (vs : List Int32) : List Int32 :=
  if x.1 = 5 then ca 3 (A0 4) x.2 :: vs else if x.1 = 18 then A0 0 0 :: vs else if x.1 = 19 then A0 0 1 :: vs else if x.1 = 20 then liL A0 0 (Q 0 1) :: vs else if x.1 = 21 then (match vs with | v :: r => ca 40 (A0 1) v :: r | [] => []) else if x.1 = 22 then (match vs with | v :: r => ca 40 (A0 2) v :: r | [] => []) else if x.1 = 23 then ca 3 (A0 5) x.2 :: vs else if x.1 = 24 then ca 3 (A0 7) x.2 :: vs else if x.1 = 25 then b01 (daL Q A0 x.2) :: vs else if x.1 = 26 then (match vs with | v :: r => (if v = 0 then 1 else 0) :: r | [] => []) else if x.1 = 48 then x.2 :: vs else if x.1 = 301 then (match vs with | v :: r => -v :: r | [] => []) else (match vs with | r :: l :: t => bvL x.1 l r :: t | _ => [])
/-- enough on the stack -/
def okS (x : Int32 × Int32) (vs : List Int32) : Prop := (x.1 = 21 ∨ x.1 = 22 ∨ x.1 = 26 ∨ x.1 = 301 → 1 ≤ vs.length) ∧ (x.1 = 5 ∨ x.1 = 18 ∨ x.1 = 19 ∨ x.1 = 20 ∨ x.1 = 21 ∨ x.1 = 22 ∨ x.1 = 23 ∨ x.1 = 24 ∨ x.1 = 25 ∨ x.1 = 26 ∨ x.1 = 48 ∨ x.1 = 301 ∨ 2 ≤ vs.length)
section PURE2
variable {Q A A0 : Mem} {v w : Int32} {vs r : List Int32} {x : Int32 × Int32}
theorem SK_push (h : SK A0 A vs) (hl : vs.length < 400) : SK A0 (puL A v) (v :: vs) := by
  obtain ⟨h1, h2, h3, h4⟩ := h
  unfold puL
  rw [h1, sp_n hl (by decide)]
  refine ⟨?_, ?_, ?_, ?_⟩
  · rw [sm_x, if_pos ⟨rfl, rfl⟩]
    exact nI_1 _
  · intro j hj
    rw [sm_x, if_neg (fun q => by cases q.1), sm_x]
    rw [List.length_cons] at hj ⊢
    by_cases c : j = vs.length
    · subst c
      rw [if_pos ⟨rfl, rfl⟩, show vs.length + 1 - 1 - vs.length = 0 by omega]
      rfl
    · rw [if_neg (fun q => c q.2), show vs.length + 1 - 1 - j = (vs.length - 1 - j) + 1 by omega, List.getElem?_cons_succ]
      exact h2 j (by omega)
  · intro k k0 k9
    funext j
    rw [sm_x, if_neg (fun q => k0 q.1), sm_x, if_neg (fun q => k9 q.1), h3 k k0 k9]
  · intro j j4
    rw [sm_x, if_neg (fun q => j4 q.2), sm_x, if_neg (fun q => by cases q.1), h4 j j4]
theorem SK_pop (h : SK A0 A (v :: vs)) (hl : vs.length < 400) : poL A = v ∧ SK A0 (ppL A) vs := by
  obtain ⟨h1, h2, h3, h4⟩ := h
  have e1 : A 0 4 = nI (vs.length + 1) := h1
  have c1 : ¬ A 0 4 ≤ 0 := by rw [e1]; exact nI_nle (by omega) (by omega)
  have e2 : A 0 4 - 1 = nI vs.length := by rw [e1]; exact nI_pred _
  have e3 : ppL A = sm A 0 4 (nI vs.length) := by unfold ppL; rw [if_neg c1, e2]
  constructor
  · unfold poL
    rw [e3, sm_x, if_pos ⟨rfl, rfl⟩, ca_n (by omega) (by decide), sm_x, if_neg (fun q => by cases q.1)]
    have := h2 vs.length (by rw [List.length_cons]; omega)
    rw [List.length_cons, show vs.length + 1 - 1 - vs.length = 0 by omega] at this
    exact (Option.some.inj this).symm
  · rw [e3]
    refine ⟨?_, ?_, ?_, ?_⟩
    · rw [sm_x, if_pos ⟨rfl, rfl⟩]
    · intro j hj
      rw [sm_x, if_neg (fun q => by cases q.1)]
      have := h2 j (by rw [List.length_cons]; omega)
      rw [List.length_cons, show vs.length + 1 - 1 - j = (vs.length - 1 - j) + 1 by omega, List.getElem?_cons_succ] at this
      exact this
    · intro k k0 k9
      funext j
      rw [sm_x, if_neg (fun q => k0 q.1), h3 k k0 k9]
    · intro j j4
      rw [sm_x, if_neg (fun q => j4 q.2), h4 j j4]
theorem liL_cong {A' : Mem} (h : A 1 = A' 1) (a b : Int32) : liL A a b = liL A' a b := by
  unfold liL
  have : liS A = liS A' := by
    funext i s
    unfold liS
    rw [h]
  rw [this]
theorem daL_cong {A' : Mem} (h : A 1 = A' 1) (b : Int32) : daL Q A b = daL Q A' b := by
  unfold daL lbL
  rw [liL_cong h]
theorem SK_op {i : Int32} (h : SK A0 A vs) (hl : vs.length < 399) (hx : ca 400 (Q 20) i = x.1) (hy : ca 400 (Q 21) i = x.2) (hok : okS x vs) : SK A0 (rsS Q i A) (opS Q A0 x vs) := by
  have h3 := h.2.2.1
  have h4 := h.2.2.2
  unfold rsS opS
  rw [hx, hy]
  by_cases c0 : x.1 = 5
  · rw [if_pos c0, if_pos c0, h3 4 (by decide) (by decide)]; exact SK_push h (by omega)
  rw [if_neg c0, if_neg c0]
  by_cases c1 : x.1 = 18
  · rw [if_pos c1, if_pos c1, h4 0 (by decide)]; exact SK_push h (by omega)
  rw [if_neg c1, if_neg c1]
  by_cases c2 : x.1 = 19
  · rw [if_pos c2, if_pos c2, h4 1 (by decide)]; exact SK_push h (by omega)
  rw [if_neg c2, if_neg c2]
  by_cases c3 : x.1 = 20
  · rw [if_pos c3, if_pos c3, liL_cong (h3 1 (by decide) (by decide))]; exact SK_push h (by omega)
  rw [if_neg c3, if_neg c3]
  by_cases c4 : x.1 = 21
  · rw [if_pos c4, if_pos c4]
    cases vs with
    | nil => exact absurd (hok.1 (Or.inl c4)) (by decide)
    | cons v r =>
      have hl : r.length + 1 < 399 := hl
      obtain ⟨e1, e2⟩ := SK_pop h (by omega)
      rw [e1, e2.2.2.1 1 (by decide) (by decide)]
      exact SK_push e2 (by omega)
  rw [if_neg c4, if_neg c4]
  by_cases c5 : x.1 = 22
  · rw [if_pos c5, if_pos c5]
    cases vs with
    | nil => exact absurd (hok.1 (Or.inr (Or.inl c5))) (by decide)
    | cons v r =>
      have hl : r.length + 1 < 399 := hl
      obtain ⟨e1, e2⟩ := SK_pop h (by omega)
      rw [e1, e2.2.2.1 2 (by decide) (by decide)]
      exact SK_push e2 (by omega)
  rw [if_neg c5, if_neg c5]
  by_cases c6 : x.1 = 23
  · rw [if_pos c6, if_pos c6, h3 5 (by decide) (by decide)]; exact SK_push h (by omega)
  rw [if_neg c6, if_neg c6]
  by_cases c7 : x.1 = 24
  · rw [if_pos c7, if_pos c7, h3 7 (by decide) (by decide)]; exact SK_push h (by omega)
  rw [if_neg c7, if_neg c7]
  by_cases c8 : x.1 = 25
  · rw [if_pos c8, if_pos c8, daL_cong (h3 1 (by decide) (by decide))]; exact SK_push h (by omega)
  rw [if_neg c8, if_neg c8]
  by_cases c9 : x.1 = 26
  · rw [if_pos c9, if_pos c9]
    cases vs with
    | nil => exact absurd (hok.1 (Or.inr (Or.inr (Or.inl c9)))) (by decide)
    | cons v r =>
      have hl : r.length + 1 < 399 := hl
      obtain ⟨e1, e2⟩ := SK_pop h (by omega)
      rw [e1]
      exact SK_push e2 (by omega)
  rw [if_neg c9, if_neg c9]
  by_cases c10 : x.1 = 48
  · rw [if_pos c10, if_pos c10]; exact SK_push h (by omega)
  rw [if_neg c10, if_neg c10]
  by_cases c11 : x.1 = 301
  · rw [if_pos c11, if_pos c11]
    cases vs with
    | nil => exact absurd (hok.1 (Or.inr (Or.inr (Or.inr c11)))) (by decide)
    | cons v r =>
      have hl : r.length + 1 < 399 := hl
      obtain ⟨e1, e2⟩ := SK_pop h (by omega)
      rw [e1]
      exact SK_push e2 (by omega)
  rw [if_neg c11, if_neg c11]
  have h2 : 2 ≤ vs.length := by
    rcases hok.2 with h | h | h | h | h | h | h | h | h | h | h | h | h
    · exact absurd h c0
    · exact absurd h c1
    · exact absurd h c2
    · exact absurd h c3
    · exact absurd h c4
    · exact absurd h c5
    · exact absurd h c6
    · exact absurd h c7
    · exact absurd h c8
    · exact absurd h c9
    · exact absurd h c10
    · exact absurd h c11
    · exact h
  match vs, h, h2, hl with
  | r :: l :: t, h, _, hl =>
    have hl : t.length + 1 + 1 < 399 := hl
    obtain ⟨e1, e2⟩ := SK_pop h (by show t.length + 1 < 400; omega)
    obtain ⟨e3, e4⟩ := SK_pop e2 (by omega)
    unfold biL
    rw [e1, e3]
    exact SK_push e4 (by omega)
  | [_], _, h2, _ => exact absurd h2 (Nat.not_succ_le_self 1)
  | [], _, h2, _ => exact absurd h2 (Nat.not_succ_le_zero 1)
/-- the steps from a on are these -/
def prg (Q : Mem) (a : Nat) (S : List (Int32 × Int32)) : Prop := ∀ j x, S[j]? = some x → Q 20 (a + j) = x.1 ∧ Q 21 (a + j) = x.2
/-- enough on the stack, all along -/
def okP (Q A0 : Mem) : List (Int32 × Int32) → List Int32 → Prop
  | [], _ => True
  | x :: S, vs => okS x vs ∧ okP Q A0 S (opS Q A0 x vs)
def opP (Q A0 : Mem) (S : List (Int32 × Int32)) (vs : List Int32) : List Int32 := S.foldl (fun vs x => opS Q A0 x vs) vs
theorem ite_len {p : Prop} {hd : Decidable p} {a b : List Int32} {m : Nat} (ha : a.length ≤ m) (hb : b.length ≤ m) : (if p then a else b).length ≤ m := by
  split
  · exact ha
  · exact hb
theorem opS_len : (opS Q A0 x vs).length ≤ vs.length + 1 := by
  unfold opS
  refine (ite_len ?_ (ite_len ?_ (ite_len ?_ (ite_len ?_ (ite_len ?_ (ite_len ?_ (ite_len ?_ (ite_len ?_ (ite_len ?_ (ite_len ?_ (ite_len ?_ (ite_len ?_ ?_))))))))))))
  all_goals (rcases vs with _ | ⟨a, _ | ⟨b, t⟩⟩ <;> simp <;> omega)
theorem SK_prg : ∀ (S : List (Int32 × Int32)) (a : Nat) (A : Mem) (vs : List Int32), a + S.length ≤ 400 → vs.length + S.length < 399 → prg Q a S → okP Q A0 S vs → SK A0 A vs → SK A0 (itI (rsS Q) (nI a) S.length A) (opP Q A0 S vs)
  | [], _, _, _, _, _, _, _, h => h
  | x :: S, a, A, vs, ha, hl, hp, hok, h => by
    have hx := hp 0 x rfl
    rw [List.length_cons] at ha hl
    have h1 := SK_op (i := nI a) (x := x) (Q := Q) h (by omega) ((ca_n (by omega) (by decide)).trans hx.1) ((ca_n (by omega) (by decide)).trans hx.2) hok.1
    have h2 := opS_len (Q := Q) (A0 := A0) (x := x) (vs := vs)
    show SK A0 (itI (rsS Q) (nI a + 1) S.length (rsS Q (nI a) A)) (opP Q A0 S (opS Q A0 x vs))
    rw [nI_1]
    exact SK_prg S (a + 1) _ _ (by omega) (by omega) (fun j y hj => by
      have := hp (j + 1) y hj
      rw [show a + 1 + j = a + (j + 1) by omega]
      exact this) hok.2 h1
/-- what a reckoning tells, and that it leaves all but the stack -/
theorem rk_eq {a : Nat} {S : List (Int32 × Int32)} (ha : a + S.length ≤ 400) (hs : S.length < 399) (hp : prg Q a S) (hok : okP Q A S []) {v : Int32} (hv : opP Q A S [] = [v]) : rvL Q A (nI a) (nI (a + S.length)) = v ∧ SK A (rmL Q A (nI a) (nI (a + S.length))) [] := by
  have h0 : SK A (sm A 0 4 0) [] := by
    refine ⟨?_, fun j hj => absurd hj (Nat.not_lt_zero _), fun k k0 _ => ?_, fun j j4 => ?_⟩
    · rw [sm_x, if_pos ⟨rfl, rfl⟩]; rfl
    · funext j; rw [sm_x, if_neg (fun q => k0 q.1)]
    · rw [sm_x, if_neg (fun q => j4 q.2)]
  have h1 := SK_prg S a (sm A 0 4 0) [] ha (by show 0 + S.length < 399; omega) hp hok h0
  rw [hv] at h1
  have e : rng (nI a) (nI (a + S.length)) = S.length := by rw [rng_n (by omega) (by omega)]; omega
  unfold rvL rmL rkL
  rw [e]
  exact SK_pop h1 (by decide)
end PURE2
