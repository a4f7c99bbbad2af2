/-! A SMALL MACHINE OF OUR OWN, over an abstract heap (a list of cells; a reference is a place in it); its runs are runs of the JVM (soundness below). -/
-- an array: its type's place in the table of types, its length and contents; an object: its class' place, its fields
abbrev ix_C : Type := (Nat × vp_A) ⊕ (Nat × List Value)
abbrev ix_H : Type := List ix_C
abbrev ix_L : Type := List (Option Value)
/-- a value's references, by the cells' addresses -/
def ix_v (ad : Nat → Nat) : Value → Value
  | .ref k => .ref (ad k)
  | v => v
def ix_ct (ad : Nat → Nat) : ((Nat → Int32) ⊕ (Nat → Int64) ⊕ (Nat → UInt32) ⊕ (Nat → UInt64) ⊕ (Nat → Option Nat)) → ((Nat → Int32) ⊕ (Nat → Int64) ⊕ (Nat → UInt32) ⊕ (Nat → UInt64) ⊕ (Nat → Option Nat))
  | .inr (.inr (.inr (.inr g))) => .inr (.inr (.inr (.inr (fun j => (g j).map ad))))
  | x => x
def ix_c (ad : Nat → Nat) (cA : Nat → ClassId) : ix_C → va_E
  | .inl (t, n, f) => .inl (cA t, n, ix_ct ad f)
  | .inr (k, fs) => .inr (k, fs.map (ix_v ad))
/-- the cells from place nr on, with their addresses (those ahead of nr are old ones, only read) -/
def ix_w (ad : Nat → Nat) (cA : Nat → ClassId) (nr : Nat) (h : ix_H) : va_W := (h.drop nr).mapIdx (fun k x => (ad (nr + k), ix_c ad cA x))
def ix_cs : ix_C → Nat
  | .inl (_, n, _) => n
  | .inr (_, fs) => fs.length + 6
def ix_sz (h : ix_H) : Nat := (h.map ix_cs).sum
theorem ix_w_get {ad : Nat → Nat} {cA : Nat → ClassId} {nr : Nat} {h : ix_H} {k : Nat} {x : ix_C} (e : h[k]? = some x) (hk : nr ≤ k) : (ix_w ad cA nr h)[k - nr]? = some (ad k, ix_c ad cA x) := by
  have e1 : nr + (k - nr) = k := by omega
  simp [ix_w, List.getElem?_mapIdx, List.getElem?_drop, e1, e]
theorem ix_w_set {ad : Nat → Nat} {cA : Nat → ClassId} {nr : Nat} (h : ix_H) (k : Nat) (x : ix_C) (hk : nr ≤ k) : ix_w ad cA nr (h.set k x) = (ix_w ad cA nr h).set (k - nr) (ad k, ix_c ad cA x) := by
  have e1 : nr + (k - nr) = k := by omega
  have e2 : (h.set k x).drop nr = (h.drop nr).set (k - nr) x := by
    rw [List.drop_set, if_neg (by omega)]
  unfold ix_w
  rw [e2, List.mapIdx_set, e1]
theorem ix_w_push {ad : Nat → Nat} {cA : Nat → ClassId} {nr : Nat} (h : ix_H) (x : ix_C) (hn : nr ≤ h.length) : ix_w ad cA nr (h ++ [x]) = ix_w ad cA nr h ++ [(ad h.length, ix_c ad cA x)] := by
  have e2 : (h ++ [x]).drop nr = h.drop nr ++ [x] := by rw [List.drop_append_of_le_length hn]
  have e1 : nr + (h.length - nr) = h.length := by omega
  unfold ix_w
  rw [e2, List.mapIdx_append]
  simp [e1]
theorem ix_sz_push (h : ix_H) (x : ix_C) : ix_sz (h ++ [x]) = ix_sz h + ix_cs x := by
  simp [ix_sz]
theorem ix_sz_set : ∀ (h : ix_H) (k : Nat) (x y : ix_C), h[k]? = some x → ix_cs y = ix_cs x → ix_sz (h.set k y) = ix_sz h
  | [], k, x, y, e, _ => by simp at e
  | a :: h, 0, x, y, e, q => by
    simp at e
    subst e
    simp [ix_sz, q]
  | a :: h, k + 1, x, y, e, q => by
    have := ix_sz_set h k x y (by simpa using e) q
    simp [ix_sz] at this ⊢
    omega
-- references that are places
def ix_wv (n : Nat) : Value → Prop
  | .ref k => k < n
  | _ => True
def ix_wc (n : Nat) : ix_C → Prop
  | .inl (_, _, .inr (.inr (.inr (.inr g)))) => ∀ j k, g j = some k → k < n
  | .inl (t, _, .inl f) => t = 2 → ∀ j, fits .byte (.int (f j)) = true
  | .inl _ => True
  | .inr (_, fs) => ∀ v ∈ fs, ix_wv n v
def ix_wf (h : ix_H) (lv : ix_L) (st : List Value) : Prop := (∀ v, some v ∈ lv → ix_wv h.length v) ∧ (∀ v ∈ st, ix_wv h.length v) ∧ ∀ x ∈ h, ix_wc h.length x
theorem ix_wv.mono {n n' : Nat} {v : Value} (h : ix_wv n v) (hn : n ≤ n') : ix_wv n' v := by
  cases v <;> first | trivial | exact Nat.lt_of_lt_of_le h hn
theorem ix_wc.mono {n n' : Nat} {x : ix_C} (h : ix_wc n x) (hn : n ≤ n') : ix_wc n' x := by
  obtain ⟨t, m, f | f | f | f | f⟩ | ⟨c, fs⟩ := x
  · exact h
  · trivial
  · trivial
  · trivial
  · exact fun j k e => Nat.lt_of_lt_of_le (h j k e) hn
  · exact fun v hv => (h v hv).mono hn
theorem ix_v_ad {n : Nat} {ad ad' : Nat → Nat} (ha : ∀ k, k < n → ad' k = ad k) {v : Value} (h : ix_wv n v) : ix_v ad' v = ix_v ad v := by
  cases v <;> first | rfl | exact congrArg Value.ref (ha _ h)
theorem ix_vs_ad {n : Nat} {ad ad' : Nat → Nat} (ha : ∀ k, k < n → ad' k = ad k) {vs : List Value} (h : ∀ v ∈ vs, ix_wv n v) : vs.map (ix_v ad') = vs.map (ix_v ad) :=
  List.map_congr_left fun v hv => ix_v_ad ha (h v hv)
theorem ix_c_ad {n : Nat} {ad ad' : Nat → Nat} {cA : Nat → ClassId} (ha : ∀ k, k < n → ad' k = ad k) {x : ix_C} (h : ix_wc n x) : ix_c ad' cA x = ix_c ad cA x := by
  obtain ⟨t, m, f | f | f | f | f⟩ | ⟨c, fs⟩ := x
  · rfl
  · rfl
  · rfl
  · rfl
  · show Sum.inl (cA t, m, Sum.inr (Sum.inr (Sum.inr (Sum.inr (fun j => (f j).map ad'))))) = Sum.inl (cA t, m, Sum.inr (Sum.inr (Sum.inr (Sum.inr (fun j => (f j).map ad)))))
    have : (fun j => (f j).map ad') = fun j => (f j).map ad := by
      funext j
      cases e : f j with
      | none => rfl
      | some k => exact congrArg some (ha k (h j k e))
    rw [this]
  · show Sum.inr (c, fs.map (ix_v ad')) = Sum.inr (c, fs.map (ix_v ad))
    rw [ix_vs_ad ha h]
theorem ix_w_ad {ad ad' : Nat → Nat} {cA : Nat → ClassId} {nr : Nat} {h : ix_H} (ha : ∀ k, k < h.length → ad' k = ad k) (hw : ∀ x ∈ h, ix_wc h.length x) : ix_w ad' cA nr h = ix_w ad cA nr h := by
  apply List.ext_getElem?
  intro k
  simp only [ix_w, List.getElem?_mapIdx]
  cases e : (h.drop nr)[k]? with
  | none => rfl
  | some x =>
    rw [List.getElem?_drop] at e
    have hl := (List.getElem?_eq_some_iff.mp e).1
    simp only [Option.map_some]
    rw [ha _ hl, ix_c_ad ha (hw x (List.mem_of_getElem? e))]
/-- one more address -/
def ix_up (ad : Nat → Nat) (n q : Nat) : Nat → Nat := fun k => if k = n then q else ad k
theorem ix_up_lt {ad : Nat → Nat} {n q k : Nat} (h : k < n) : ix_up ad n q k = ad k := if_neg (by omega)
theorem ix_up_eq {ad : Nat → Nat} {n q : Nat} : ix_up ad n q n = q := if_pos rfl
theorem ix_v_cat (ad : Nat → Nat) (v : Value) : (ix_v ad v).category = v.category := by cases v <;> rfl
-- locals
def ix_st (i : Nat) (v : Value) (lv : ix_L) : ix_L := (match i with
  | 0 => lv
  | j + 1 => match lv[j]? with
    | some (some w) => if w.category = 2 then lv.set j none else lv
    | _ => lv).set i (some v)
def ix_st2 (i : Nat) (v : Value) (lv : ix_L) : ix_L := (ix_st i v lv).set (i + 1) none
/-- the machine's locals hold what the list says -/
def ix_LR (ad : Nat → Nat) (nL : Nat) (lv : ix_L) (ls : Array Slot) : Prop := lv.length = nL ∧ ls.size = nL ∧ lv_wf ls ∧ ∀ (i : Nat) (v : Value), lv[i]? = some (some v) → ls[i]? = some (.val (ix_v ad v))
def ix_al (ad : Nat → Nat) (lv : ix_L) : List (Nat × Value) := (List.range lv.length).filterMap (fun i => match lv[i]? with
  | some (some v) => some (i, ix_v ad v)
  | _ => none)
theorem ix_al_mem {ad : Nat → Nat} {lv : ix_L} {q : Nat × Value} : q ∈ ix_al ad lv ↔ ∃ v, lv[q.1]? = some (some v) ∧ q.2 = ix_v ad v := by
  unfold ix_al
  rw [List.mem_filterMap]
  constructor
  · rintro ⟨i, -, h⟩
    split at h
    · next v e => cases h; exact ⟨v, e, rfl⟩
    · cases h
  · rintro ⟨v, e, h2⟩
    refine ⟨q.1, List.mem_range.mpr (List.getElem?_eq_some_iff.mp e).1, ?_⟩
    rw [e]
    simp [← h2]
theorem ix_LR.has {ad : Nat → Nat} {nL : Nat} {lv : ix_L} {ls : Array Slot} (h : ix_LR ad nL lv ls) : lv_has ls nL (ix_al ad lv) := by
  refine ⟨h.2.1, h.2.2.1, fun q hq => ?_⟩
  obtain ⟨v, e, h2⟩ := ix_al_mem.mp hq
  rw [h2]
  exact h.2.2.2 q.1 v e
theorem ix_LR.st {ad : Nat → Nat} {nL i : Nat} {v : Value} {lv : ix_L} {ls ls' : Array Slot} (h : ix_LR ad nL lv ls) (h' : lv_has ls' nL ((i, ix_v ad v) :: (ix_al ad lv).filter (fun q => !(q.1 == i) && !(q.1 + 1 == i && q.2.category == 2)))) : ix_LR ad nL (ix_st i v lv) ls' := by
  obtain ⟨e1, e2, e3⟩ := h'
  have hlen : (ix_st i v lv).length = lv.length := by
    unfold ix_st
    split
    · simp
    · split
      · split <;> simp
      · simp
  refine ⟨hlen.trans h.1, e1, e2, fun j w hj => ?_⟩
  by_cases hji : j = i
  · subst hji
    have hw : w = v := by
      unfold ix_st at hj
      have hlt := (List.getElem?_eq_some_iff.mp hj).1
      rw [List.length_set] at hlt
      rw [List.getElem?_set_self hlt] at hj
      cases hj
      rfl
    rw [hw]
    exact e3 (j, ix_v ad v) List.mem_cons_self
  · have h1 : lv[j]? = some (some w) ∧ ¬ (j + 1 = i ∧ w.category = 2) := by
      unfold ix_st at hj
      rw [List.getElem?_set_ne (Ne.symm hji)] at hj
      cases i with
      | zero => exact ⟨hj, by omega⟩
      | succ i =>
        dsimp only at hj
        split at hj
        · next w0 e0 =>
          split at hj
          · next hc =>
            by_cases hij : i = j
            · subst hij
              have hlt := (List.getElem?_eq_some_iff.mp hj).1
              rw [List.length_set] at hlt
              rw [List.getElem?_set_self hlt] at hj
              cases hj
            · rw [List.getElem?_set_ne hij] at hj
              exact ⟨hj, by omega⟩
          · next hc =>
            refine ⟨hj, fun hx => hc ?_⟩
            have : j = i := by omega
            subst this
            rw [e0] at hj
            cases hj
            exact hx.2
        · next hn =>
          refine ⟨hj, fun hx => ?_⟩
          have : j = i := by omega
          subst this
          exact hn w hj
    refine e3 (j, ix_v ad w) (List.mem_cons_of_mem _ (List.mem_filter.mpr ⟨ix_al_mem.mpr ⟨w, h1.1, rfl⟩, ?_⟩))
    have h2 := h1.2
    simp only [ix_v_cat, Bool.and_eq_true, Bool.not_eq_true', beq_eq_false_iff_ne, ne_eq, Bool.and_eq_false_iff]
    refine ⟨hji, ?_⟩
    by_cases hc : j + 1 = i
    · right
      intro hcat
      exact h2 ⟨hc, hcat⟩
    · left
      exact hc
theorem ix_LR.ad {ad ad' : Nat → Nat} {n nL : Nat} {lv : ix_L} {ls : Array Slot} (h : ix_LR ad nL lv ls) (ha : ∀ k, k < n → ad' k = ad k) (hw : ∀ v, some v ∈ lv → ix_wv n v) : ix_LR ad' nL lv ls :=
  ⟨h.1, h.2.1, h.2.2.1, fun i v e => by rw [ix_v_ad ha (hw v (List.mem_of_getElem? e))]; exact h.2.2.2 i v e⟩
