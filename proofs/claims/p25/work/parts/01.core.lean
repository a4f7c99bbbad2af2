/-! A SMALL MACHINE OF OUR OWN, over an abstract heap (a list of cells; a reference is a place in it); its runs are runs of the JVM (soundness below). -/
-- an array: its type's place in the table of types, its length and contents; an object: its class' place, its fields
abbrev ix_C : Type := (Nat × vp_A) ⊕ (Nat × List Value)
abbrev ix_H : Type := List ix_C
abbrev ix_L : Type := List (Option Value)
/-- a value's references, by the cells' addresses -/
def ix_v (ad : Nat → Nat) : Value → Value
  | .ref k => .ref (ad k)
  | v => v
def ix_ct (ad : Nat → Nat) : ((Nat → Int32) ⊕ (Nat → Int64) ⊕ (Nat → UInt32) ⊕ (Nat → UInt64) ⊕ (Nat → Option Nat)) → ((Nat → Int32) ⊕ (Nat → Int64) ⊕ (Nat → UInt32) ⊕ (Nat → UInt64) ⊕ (Nat → Option Nat))
  | .inr (.inr (.inr (.inr g))) => .inr (.inr (.inr (.inr (fun j => (g j).map ad))))
  | x => x
def ix_c (ad : Nat → Nat) (cA : Nat → ClassId) : ix_C → va_E
  | .inl (t, n, f) => .inl (cA t, n, ix_ct ad f)
  | .inr (k, fs) => .inr (k, fs.map (ix_v ad))
def ix_w (ad : Nat → Nat) (cA : Nat → ClassId) (h : ix_H) : va_W := h.mapIdx (fun k x => (ad k, ix_c ad cA x))
def ix_cs : ix_C → Nat
  | .inl (_, n, _) => n
  | .inr (_, fs) => fs.length
def ix_sz (h : ix_H) : Nat := (h.map ix_cs).sum
theorem ix_w_get {ad : Nat → Nat} {cA : Nat → ClassId} {h : ix_H} {k : Nat} {x : ix_C} (e : h[k]? = some x) : (ix_w ad cA h)[k]? = some (ad k, ix_c ad cA x) := by
  simp [ix_w, List.getElem?_mapIdx, e]
theorem ix_w_set {ad : Nat → Nat} {cA : Nat → ClassId} (h : ix_H) (k : Nat) (x : ix_C) : ix_w ad cA (h.set k x) = (ix_w ad cA h).set k (ad k, ix_c ad cA x) := by
  simp [ix_w, List.mapIdx_set]
theorem ix_w_push {ad : Nat → Nat} {cA : Nat → ClassId} (h : ix_H) (x : ix_C) : ix_w ad cA (h ++ [x]) = ix_w ad cA h ++ [(ad h.length, ix_c ad cA x)] := by
  simp [ix_w, List.mapIdx_append]
theorem ix_sz_push (h : ix_H) (x : ix_C) : ix_sz (h ++ [x]) = ix_sz h + ix_cs x := by
  simp [ix_sz]
theorem ix_sz_set : ∀ (h : ix_H) (k : Nat) (x y : ix_C), h[k]? = some x → ix_cs y = ix_cs x → ix_sz (h.set k y) = ix_sz h
  | [], k, x, y, e, _ => by simp at e
  | a :: h, 0, x, y, e, q => by
    simp at e
    subst e
    simp [ix_sz, q]
  | a :: h, k + 1, x, y, e, q => by
    have := ix_sz_set h k x y (by simpa using e) q
    simp [ix_sz] at this ⊢
    omega
theorem ix_v_cat (ad : Nat → Nat) (v : Value) : (ix_v ad v).category = v.category := by cases v <;> rfl
-- locals
def ix_st (i : Nat) (v : Value) (lv : ix_L) : ix_L := (match i with
  | 0 => lv
  | j + 1 => match lv[j]? with
    | some (some w) => if w.category = 2 then lv.set j none else lv
    | _ => lv).set i (some v)
def ix_st2 (i : Nat) (v : Value) (lv : ix_L) : ix_L := (ix_st i v lv).set (i + 1) none
/-- the machine's locals hold what the list says -/
def ix_LR (ad : Nat → Nat) (nL : Nat) (lv : ix_L) (ls : Array Slot) : Prop := lv.length = nL ∧ ls.size = nL ∧ lv_wf ls ∧ ∀ (i : Nat) (v : Value), lv[i]? = some (some v) → ls[i]? = some (.val (ix_v ad v))
def ix_al (ad : Nat → Nat) (lv : ix_L) : List (Nat × Value) := (List.range lv.length).filterMap (fun i => match lv[i]? with
  | some (some v) => some (i, ix_v ad v)
  | _ => none)
theorem ix_al_mem {ad : Nat → Nat} {lv : ix_L} {q : Nat × Value} : q ∈ ix_al ad lv ↔ ∃ v, lv[q.1]? = some (some v) ∧ q.2 = ix_v ad v := by
  unfold ix_al
  rw [List.mem_filterMap]
  constructor
  · rintro ⟨i, -, h⟩
    split at h
    · next v e => cases h; exact ⟨v, e, rfl⟩
    · cases h
  · rintro ⟨v, e, h2⟩
    refine ⟨q.1, List.mem_range.mpr (List.getElem?_eq_some_iff.mp e).1, ?_⟩
    rw [e]
    simp [← h2]
theorem ix_LR.has {ad : Nat → Nat} {nL : Nat} {lv : ix_L} {ls : Array Slot} (h : ix_LR ad nL lv ls) : lv_has ls nL (ix_al ad lv) := by
  refine ⟨h.2.1, h.2.2.1, fun q hq => ?_⟩
  obtain ⟨v, e, h2⟩ := ix_al_mem.mp hq
  rw [h2]
  exact h.2.2.2 q.1 v e
theorem ix_LR.st {ad : Nat → Nat} {nL i : Nat} {v : Value} {lv : ix_L} {ls ls' : Array Slot} (h : ix_LR ad nL lv ls) (h' : lv_has ls' nL ((i, ix_v ad v) :: (ix_al ad lv).filter (fun q => !(q.1 == i) && !(q.1 + 1 == i && q.2.category == 2)))) : ix_LR ad nL (ix_st i v lv) ls' := by
  obtain ⟨e1, e2, e3⟩ := h'
  have hlen : (ix_st i v lv).length = lv.length := by
    unfold ix_st
    split
    · simp
    · split
      · split <;> simp
      · simp
  refine ⟨hlen.trans h.1, e1, e2, fun j w hj => ?_⟩
  by_cases hji : j = i
  · subst hji
    have hw : w = v := by
      unfold ix_st at hj
      have hlt := (List.getElem?_eq_some_iff.mp hj).1
      rw [List.length_set] at hlt
      rw [List.getElem?_set_self hlt] at hj
      cases hj
      rfl
    rw [hw]
    exact e3 (j, ix_v ad v) List.mem_cons_self
  · have h1 : lv[j]? = some (some w) ∧ ¬ (j + 1 = i ∧ w.category = 2) := by
      unfold ix_st at hj
      rw [List.getElem?_set_ne (Ne.symm hji)] at hj
      cases i with
      | zero => exact ⟨hj, by omega⟩
      | succ i =>
        dsimp only at hj
        split at hj
        · next w0 e0 =>
          split at hj
          · next hc =>
            by_cases hij : i = j
            · subst hij
              have hlt := (List.getElem?_eq_some_iff.mp hj).1
              rw [List.length_set] at hlt
              rw [List.getElem?_set_self hlt] at hj
              cases hj
            · rw [List.getElem?_set_ne hij] at hj
              exact ⟨hj, by omega⟩
          · next hc =>
            refine ⟨hj, fun hx => hc ?_⟩
            have : j = i := by omega
            subst this
            rw [e0] at hj
            cases hj
            exact hx.2
        · next hn =>
          refine ⟨hj, fun hx => ?_⟩
          have : j = i := by omega
          subst this
          exact hn w hj
    refine e3 (j, ix_v ad w) (List.mem_cons_of_mem _ (List.mem_filter.mpr ⟨ix_al_mem.mpr ⟨w, h1.1, rfl⟩, ?_⟩))
    have h2 := h1.2
    simp only [ix_v_cat, Bool.and_eq_true, Bool.not_eq_true', beq_eq_false_iff_ne, ne_eq, Bool.and_eq_false_iff]
    refine ⟨hji, ?_⟩
    by_cases hc : j + 1 = i
    · right
      intro hcat
      exact h2 ⟨hc, hcat⟩
    · left
      exact hc
