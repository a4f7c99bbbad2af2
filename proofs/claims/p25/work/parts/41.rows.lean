/-! WORLDS: a stretch of the heap written over; rows of numbers. -/
def ov : ix_H → Nat → List ix_C → ix_H
  | h, _, [] => h
  | h, t, c :: cs => (ov h (t + 1) cs).set t c
theorem ov_len : ∀ (h : ix_H) (t : Nat) (cs : List ix_C), (ov h t cs).length = h.length
  | _, _, [] => rfl
  | h, t, c :: cs => by rw [ov, List.length_set, ov_len h (t + 1) cs]
theorem ov_g : ∀ (h : ix_H) (t : Nat) (cs : List ix_C) (o : Nat), (ov h t cs)[o]? = if t ≤ o ∧ o < t + cs.length ∧ o < h.length then cs[o - t]? else h[o]?
  | h, t, [], o => by
    rw [if_neg (by simp only [List.length_nil]; omega)]; rfl
  | h, t, c :: cs, o => by
    rw [ov, List.getElem?_set, ov_g h (t + 1) cs o, ov_len, List.length_cons]
    by_cases e : t = o
    · subst e
      rw [if_pos rfl]
      by_cases hl : t < h.length
      · rw [if_pos hl, if_pos (by omega), Nat.sub_self]; rfl
      · rw [if_neg hl, if_neg (by omega), List.getElem?_eq_none (by omega)]
    · rw [if_neg e]
      by_cases p : t + 1 ≤ o ∧ o < t + 1 + cs.length ∧ o < h.length
      · rw [if_pos p, if_pos (by omega), show o - t = (o - (t + 1)) + 1 by omega, List.getElem?_cons_succ]
      · rw [if_neg p, if_neg (by omega)]
theorem ov_in {h : ix_H} {t k : Nat} {cs : List ix_C} (hb : t + cs.length ≤ h.length) (hk : k < cs.length) : (ov h t cs)[t + k]? = cs[k]? := by
  rw [ov_g, if_pos (by omega), Nat.add_sub_cancel_left]
theorem ov_in0 {h : ix_H} {t : Nat} {cs : List ix_C} (hb : t + cs.length ≤ h.length) (hk : 0 < cs.length) : (ov h t cs)[t]? = cs[0]? := ov_in (k := 0) hb hk
theorem ov_lo {h : ix_H} {t o : Nat} {cs : List ix_C} (ho : o < t) : (ov h t cs)[o]? = h[o]? := by
  rw [ov_g, if_neg (by omega)]
theorem ov_hi {h : ix_H} {t o : Nat} {cs : List ix_C} (ho : t + cs.length ≤ o) : (ov h t cs)[o]? = h[o]? := by
  rw [ov_g, if_neg (by omega)]
theorem ov_set {h : ix_H} {t k : Nat} {cs : List ix_C} {c : ix_C} (hk : k < cs.length) : (ov h t cs).set (t + k) c = ov h t (cs.set k c) := by
  apply List.ext_getElem?
  intro o
  rw [List.getElem?_set, ov_g, ov_g, ov_len, List.length_set, List.getElem?_set]
  by_cases e : t + k = o
  · subst e
    rw [if_pos rfl]
    by_cases hl : t + k < h.length
    · rw [if_pos hl, if_pos (by omega), if_pos (by omega), if_pos hk]
    · rw [if_neg hl, if_neg (by omega), List.getElem?_eq_none (by omega)]
  · rw [if_neg e]
    by_cases p : t ≤ o ∧ o < t + cs.length ∧ o < h.length
    · rw [if_pos p, if_pos p, if_neg (by omega)]
    · rw [if_neg p, if_neg p]
theorem ov_ov {h : ix_H} {t : Nat} {cs cs' : List ix_C} (e : cs.length = cs'.length) : ov (ov h t cs) t cs' = ov h t cs' := by
  apply List.ext_getElem?
  intro o
  rw [ov_g, ov_g, ov_g, ov_len, e]
  by_cases p : t ≤ o ∧ o < t + cs'.length ∧ o < h.length
  · rw [if_pos p, if_pos p]
  · rw [if_neg p, if_neg p, if_neg p]
theorem ov_comm {h : ix_H} {t t' : Nat} {cs cs' : List ix_C} (e : t + cs.length ≤ t') : ov (ov h t cs) t' cs' = ov (ov h t' cs') t cs := by
  apply List.ext_getElem?
  intro o
  rw [ov_g, ov_g, ov_g, ov_g, ov_len, ov_len]
  by_cases p : t ≤ o ∧ o < t + cs.length ∧ o < h.length
  · rw [if_neg (by omega), if_pos p, if_pos p]
  · rw [if_neg p, if_neg p]
theorem ov_push {h : ix_H} {t : Nat} {cs l : List ix_C} (e : t + cs.length ≤ h.length) : ov h t cs ++ l = ov (h ++ l) t cs := by
  apply List.ext_getElem?
  intro o
  rw [ov_g, List.length_append]
  by_cases p : o < h.length
  · rw [List.getElem?_append_left (by rw [ov_len]; exact p), ov_g, List.getElem?_append_left p]
    by_cases q : t ≤ o ∧ o < t + cs.length ∧ o < h.length
    · rw [if_pos q, if_pos (by omega)]
    · rw [if_neg q, if_neg (by omega)]
  · rw [List.getElem?_append_right (by rw [ov_len]; omega), ov_len, if_neg (by omega), List.getElem?_append_right (by omega)]
theorem ov_setO {h : ix_H} {t o : Nat} {cs : List ix_C} {c : ix_C} (e : o < t ∨ t + cs.length ≤ o) : (ov h t cs).set o c = ov (h.set o c) t cs := by
  apply List.ext_getElem?
  intro j
  rw [List.getElem?_set, ov_g, ov_g, ov_len, List.length_set, List.getElem?_set]
  by_cases p : t ≤ j ∧ j < t + cs.length ∧ j < h.length
  · rw [if_neg (by omega), if_pos p, if_pos p]
  · rw [if_neg p, if_neg p]
theorem ov_self {h : ix_H} {t : Nat} {cs : List ix_C} (e : ∀ k, k < cs.length → h[t + k]? = cs[k]?) : ov h t cs = h := by
  apply List.ext_getElem?
  intro o
  rw [ov_g]
  by_cases p : t ≤ o ∧ o < t + cs.length ∧ o < h.length
  · rw [if_pos p, ← e (o - t) (by omega), show t + (o - t) = o by omega]
  · rw [if_neg p]
theorem ov_end {h : ix_H} {cs zs : List ix_C} (e : zs.length = cs.length) : ov (h ++ zs) h.length cs = h ++ cs := by
  apply List.ext_getElem?
  intro o
  rw [ov_g, List.length_append]
  by_cases p : o < h.length
  · rw [if_neg (by omega), List.getElem?_append_left p, List.getElem?_append_left p]
  · rw [List.getElem?_append_right (l₁ := h) (l₂ := cs) (by omega)]
    by_cases q : o < h.length + cs.length
    · rw [if_pos (by omega)]
    · rw [if_neg (by omega), List.getElem?_eq_none (by rw [List.length_append]; omega), List.getElem?_eq_none (by omega)]
theorem ix_sz_ov : ∀ {h : ix_H} {t : Nat} {cs : List ix_C}, (∀ k, k < cs.length → (h[t + k]?).map ix_cs = (cs[k]?).map ix_cs) → ix_sz (ov h t cs) = ix_sz h
  | h, t, [], _ => rfl
  | h, t, c :: cs, e => by
    have h1 : ix_sz (ov h (t + 1) cs) = ix_sz h := ix_sz_ov (fun k hk => by
      have := e (k + 1) (by rw [List.length_cons]; omega)
      rw [List.getElem?_cons_succ] at this
      rw [← this, show t + 1 + k = t + (k + 1) by omega])
    have h0 := e 0 (by rw [List.length_cons]; omega)
    rw [Nat.add_zero, List.getElem?_cons_zero] at h0
    cases hx : h[t]? with
    | none => rw [hx] at h0; cases h0
    | some x =>
      rw [hx] at h0
      rw [ov, ix_sz_set _ _ x c (by rw [ov_lo (Nat.lt_succ_self t)]; exact hx) (Option.some.inj h0).symm, h1]
-- rows
theorem b01_0 {b : Bool} : ((if b = true then (1 : Int32) else 0) = 0) ↔ ¬ b = true := by cases b <;> decide
def b01 (b : Bool) : Int32 := if b = true then 1 else 0
theorem b01_z {b : Bool} : (b01 b = 0) ↔ (b = false) := by cases b <;> decide
theorem b01_o {b : Bool} : (b01 b = 1) ↔ (b = true) := by cases b <;> decide
theorem ft0 : ix_ft .boolean (.int 0) = true := by decide
theorem ft1 : ix_ft .boolean (.int 1) = true := by decide
theorem b01_t : b01 true = 1 := rfl
theorem b01_f : b01 false = 0 := rfl
theorem b01_ft (b : Bool) : ix_ft .boolean (.int (b01 b)) = true := by cases b <;> decide
def ca (n : Nat) (a : Nat → Int32) (i : Int32) : Int32 := if ix_in i n = true then a i.toNatClampNeg else 0
def cl (h : ix_H) (o : Nat) (i : Int32) : Int32 := match h[o]? with
  | some (.inl (_, n, .inl a)) => ca n a i
  | _ => 0
def isI (h : ix_H) (o : Nat) : Bool := match h[o]? with
  | some (.inl (t, n, .inl _)) => decide (t = 0) && decide (n ≤ 50000000)
  | _ => false
def pt (h : ix_H) (o : Nat) (i v : Int32) : ix_H := match h[o]? with
  | some (.inl (t, n, .inl a)) => if ix_in i n = true then h.set o (.inl (t, n, .inl (upd a i.toNatClampNeg v))) else h
  | _ => h
def fl (h : ix_H) (o : Nat) (v : Int32) : ix_H := match h[o]? with
  | some (.inl (t, n, .inl a)) => h.set o (.inl (t, n, .inl (fun j => if j < n then v else a j)))
  | _ => h
def lnI (h : ix_H) (o : Nat) : Nat := match h[o]? with
  | some (.inl (_, n, .inl _)) => n
  | _ => 0
def cpy (h : ix_H) (o o' : Nat) : ix_H := match h[o]?, h[o']? with
  | some (.inl (_, n, .inl a)), some (.inl (t, n', .inl a')) => h.set o' (.inl (t, n', .inl (fun j => if j < n ∧ j < n' then a j else a' j)))
  | _, _ => h
theorem isI_of {h : ix_H} {o : Nat} (e : isI h o = true) : ∃ n a, h[o]? = some (.inl (0, n, .inl a)) ∧ n ≤ 50000000 := by
  unfold isI at e
  split at e
  · next t n a q =>
    rw [Bool.and_eq_true, decide_eq_true_eq, decide_eq_true_eq] at e
    exact ⟨n, a, by rw [q, e.1], e.2⟩
  · cases e
theorem ix_in_of {i : Int32} {n : Nat} (hn : n ≤ 50000000) : ix_in i n = (decide (¬ i < 0) && decide (¬ nI n ≤ i)) := by
  have h1 : (nI n).toInt = n := nI_toInt (by omega)
  unfold ix_in
  congr 1
  · rw [decide_eq_decide, Int32.lt_iff_toInt_lt, Int32.toInt_zero]
    omega
  · rw [decide_eq_decide, Int32.le_iff_toInt_le, h1]
    omega
theorem nI_fold (n : Nat) : Int32.ofNat n = nI n := rfl
section ROWS
variable {fv : Value} {d : Nat} {h : ix_H} {o : Nat}
theorem rN_of {t n : Nat} {a : (Nat → Int32) ⊕ (Nat → Int64) ⊕ (Nat → UInt32) ⊕ (Nat → UInt64) ⊕ (Nat → Option Nat)} (e : h[o]? = some (.inl (t, n, a))) (ht : t < 6) : rN (ixP fv) h o = some (.int (nI n)) := by
  unfold rN ix_ar
  rw [e]
  have : ∀ t, t < 6 → ∃ y, (ix_TY (ixP fv))[t]? = some y := by
    intro t ht
    have : t < (ix_TY (ixP fv)).length := Nat.lt_of_lt_of_le ht (Nat.le_of_ble_eq_true rfl)
    exact ⟨_, List.getElem?_eq_getElem this⟩
  obtain ⟨y, hy⟩ := this t ht
  show (match (ix_TY (ixP fv))[t]? with | some _ => some (Value.int (Int32.ofNat n)) | none => none) = _
  rw [hy]
  rfl
theorem rA_of {n : Nat} {a : Nat → Int32} {i : Int32} (e : h[o]? = some (.inl (0, n, .inl a))) (hi : ix_in i n = true) : rA h o i = some (.int (a i.toNatClampNeg)) := by
  unfold rA ix_ai
  rw [e]
  exact if_pos ⟨rfl, hi⟩
theorem wA_of {n : Nat} {a : Nat → Int32} {i v : Int32} (e : h[o]? = some (.inl (0, n, .inl a))) (ho : 98 ≤ o) (hi : ix_in i n = true) : wA (ixP fv) h o i v = some (h.set o (.inl (0, n, .inl (upd a i.toNatClampNeg v)))) := by
  unfold wA ix_ai
  rw [e]
  exact if_pos ⟨ho, rfl, hi⟩
theorem m115 {i : Int32} (ho : isI h o = true) : xe (ixP fv) d 115 0 [some (.ref o), some (.int i)] [] h = some (.inl (some (.int (cl h o i))), h) := by
  obtain ⟨n, a, e, hn⟩ := isI_of ho
  have e1 : rN (ixP fv) h o = some (.int (nI n)) := rN_of e (by decide)
  have e3 : cl h o i = ca n a i := by unfold cl; rw [e]
  rw [e3]
  unfold ca
  rw [ix_in_of hn]
  by_cases c1 : i < 0
  · simp only [q115_0, q115_1, q115_16, q115_17 (st := []), c1, if_true, not_true, decide_false, Bool.false_and, Bool.false_eq_true, if_false]
  by_cases c2 : nI n ≤ i
  · simp only [q115_0, q115_1, q115_4, q115_5, q115_6, q115_7, q115_16, q115_17 (st := []), e1, xG_some, c1, c2, if_true, not_true, not_false_eq_true, decide_true, decide_false, Bool.and_false, Bool.false_eq_true, if_false]
  have e2 := rA_of e (i := i) (by rw [ix_in_of hn]; simp [c1, c2])
  simp only [q115_0, q115_1, q115_4, q115_5, q115_6, q115_7, q115_10, q115_11, q115_12, q115_13, q115_17 (st := []), e1, e2, xG_some, c1, c2, if_true, not_true, not_false_eq_true, decide_true, decide_false, Bool.and_self, if_false]
theorem m117 {i v : Int32} (ho : isI h o = true) (hr : 98 ≤ o) : xe (ixP fv) d 117 0 [some (.ref o), some (.int i), some (.int v)] [] h = some (.inl none, pt h o i v) := by
  obtain ⟨n, a, e, hn⟩ := isI_of ho
  have e1 : rN (ixP fv) h o = some (.int (nI n)) := rN_of e (by decide)
  have e3 : pt h o i v = if ix_in i n = true then h.set o (.inl (0, n, .inl (upd a i.toNatClampNeg v))) else h := by unfold pt; rw [e]
  rw [e3, ix_in_of hn]
  by_cases c1 : i < 0
  · simp only [q117_0, q117_1, q117_14 (st := []), c1, if_true, not_true, decide_false, Bool.false_and, Bool.false_eq_true, if_false]
  by_cases c2 : nI n ≤ i
  · simp only [q117_0, q117_1, q117_4, q117_5, q117_6, q117_7, q117_14 (st := []), e1, xG_some, c1, c2, if_true, not_true, not_false_eq_true, decide_true, decide_false, Bool.and_false, Bool.false_eq_true, if_false]
  have e2 := wA_of (fv := fv) e hr (i := i) (v := v) (by rw [ix_in_of hn]; simp [c1, c2])
  simp only [q117_0, q117_1, q117_4, q117_5, q117_6, q117_7, q117_10, q117_11, q117_12, q117_13, q117_14 (st := []), e1, e2, xG_some, xH_some, c1, c2, if_true, not_true, not_false_eq_true, decide_true, decide_false, Bool.and_self, if_false]
end ROWS
-- loops
/-- so many rounds, counted from k -/
def itr {S : Type} (f : Nat → S → S) : Nat → Nat → S → S
  | _, 0, s => s
  | k, m + 1, s => itr f (k + 1) m (f k s)
/-- the same, with a way out -/
def itx {S R : Type} (f : Nat → S → R ⊕ S) : Nat → Nat → S → R ⊕ S
  | _, 0, s => .inr s
  | k, m + 1, s => match f k s with
    | .inl r => .inl r
    | .inr s' => itx f (k + 1) m s'
theorem lp_itr {S T : Type} {X : Nat → S → T} {n : Nat} {f : Nat → S → S} (step : ∀ k s, k < n → X k s = X (k + 1) (f k s)) : ∀ m k s, k + m = n → X k s = X n (itr f k m s)
  | 0, k, s, e => by rw [Nat.add_zero] at e; rw [e]; rfl
  | m + 1, k, s, e => by rw [step k s (by omega), lp_itr step m (k + 1) (f k s) (by omega)]; rfl
theorem lp_itx {S R T : Type} {X : Nat → S → T} {E : R → T} {n : Nat} {f : Nat → S → R ⊕ S} (step : ∀ k s, k < n → X k s = match f k s with | .inl r => E r | .inr s' => X (k + 1) s') : ∀ m k s, k + m = n → X k s = match itx f k m s with | .inl r => E r | .inr s' => X n s'
  | 0, k, s, e => by rw [Nat.add_zero] at e; rw [e]; rfl
  | m + 1, k, s, e => by
    rw [step k s (by omega)]
    unfold itx
    cases hf : f k s with
    | inl r => rfl
    | inr s' => exact lp_itx step m (k + 1) s' (by omega)
/-- a counter below a bound -/
theorem nI_cmp {k : Nat} {x : Int32} (h : k < x.toNatClampNeg) : ¬ x ≤ nI k := by
  have hx := x.toInt_lt
  unfold Int32.toNatClampNeg at h
  rw [Int32.le_iff_toInt_le, nI_toInt (by omega)]
  omega
theorem nI_end {x : Int32} : x ≤ nI x.toNatClampNeg := by
  have hx := x.toInt_lt
  have h0 : x.toNatClampNeg = x.toInt.toNat := rfl
  rw [Int32.le_iff_toInt_le, nI_toInt (by omega)]
  omega
theorem i32_nlt {a b : Int32} : (¬ a < b) = (b ≤ a) := propext Int32.not_lt
theorem i32_nle {a b : Int32} : (¬ a ≤ b) = (b < a) := propext Int32.not_le
