/-! THE WORLD OF SIM (written by gen50.py): tables 1 bays, 2 panes, 3 chimneys, 4 cradles, 5 flocks, 6 orders; X t the outer array of table t, D t r its row r, n t how many; M t r j its cells; M 0 0 the numbers hour, wind, letGo, spared. -/
abbrev Mm : Type := Nat → Nat → Nat → Int32
def lnS : Nat → Nat
  | 1 => 2
  | 2 => 4
  | 3 => 4
  | 4 => 5
  | 5 => 4
  | 6 => 10
  | _ => 0
def obS (X : Nat → Nat) (M : Mm) : ix_C := .inr (7, [.int (M 0 0 0), .int (M 0 0 1), .int (M 0 0 2), .int (M 0 0 3), .ref (X 1), .ref (X 2), .ref (X 3), .ref (X 4), .ref (X 5), .ref (X 6)])
def um (M : Mm) (t r j : Nat) (v : Int32) : Mm := fun t' => if t' = t then (fun r' => if r' = r then upd (M t' r') j v else M t' r') else M t'
def clS' (X : Nat → Nat) (M : Mm) : Nat × Nat → ix_C
  | (0, _) => obS X M
  | (t + 1, r) => .inl (0, lnS (t + 1), .inl (M (t + 1) r))
def wS (h : ix_H) (K : Nat → Option (Nat × Nat)) (X : Nat → Nat) (M : Mm) : ix_H := h.mapIdx (fun o c => match K o with
  | none => c
  | some p => clS' X M p)
def gS (h : ix_H) (s : Nat) (K : Nat → Option (Nat × Nat)) (X : Nat → Nat) (D : Nat → Nat → Nat) (n : Nat → Nat) : Prop :=
  (98 ≤ s ∧ s < h.length ∧ K s = some (0, 0)) ∧ (∀ o t r, K o = some (t, r) → o = if t = 0 then s else D t r) ∧ (∀ t r, 1 ≤ t → t ≤ 6 → r < n t → K (D t r) = some (t, r) ∧ 98 ≤ D t r ∧ D t r < h.length) ∧ (∀ t, 1 ≤ t → t ≤ 6 → K (X t) = none ∧ 98 ≤ X t ∧ n t ≤ 50 ∧ h[X t]? = some (.inl (5, n t, .inr (.inr (.inr (.inr (fun j => if j < n t then some (D t j) else none)))))))
/-- an index as it should be -/
def vx (x : Int32) (m : Nat) : Prop := x = nI x.toNatClampNeg ∧ x.toNatClampNeg < m
section SIM
variable {fv : Value} {h : ix_H} {s : Nat} {K : Nat → Option (Nat × Nat)} {X : Nat → Nat} {D : Nat → Nat → Nat} {n : Nat → Nat} {M : Mm} {t r j : Nat} {v i : Int32}
theorem vx_nI {m k : Nat} (hk : k < m) (hm : m < 2 ^ 31) : vx (nI k) m := by
  unfold vx
  rw [nI_clamp (by omega)]
  exact ⟨rfl, hk⟩
theorem wS_len : (wS h K X M).length = h.length := List.length_mapIdx
theorem wS_get (o : Nat) : (wS h K X M)[o]? = h[o]?.map (fun c => match K o with
  | none => c
  | some p => clS' X M p) := List.getElem?_mapIdx
theorem wS_no {o : Nat} (ho : K o = none) : (wS h K X M)[o]? = h[o]? := by
  rw [wS_get]
  cases h[o]? with
  | none => rfl
  | some c => simp [ho]
theorem wS_yes {o : Nat} {p : Nat × Nat} (ho : K o = some p) (hl : o < h.length) : (wS h K X M)[o]? = some (clS' X M p) := by
  rw [wS_get, List.getElem?_eq_getElem hl]
  simp [ho]
theorem wS_s (g : gS h s K X D n) : (wS h K X M)[s]? = some (obS X M) := wS_yes g.1.2.2 g.1.2.1
theorem wS_row (g : gS h s K X D n) (h1 : 1 ≤ t) (h6 : t ≤ 6) (hr : r < n t) : (wS h K X M)[D t r]? = some (.inl (0, lnS t, .inl (M t r))) := by
  obtain ⟨a, b, c⟩ := g.2.2.1 t r h1 h6 hr
  rw [wS_yes a c]
  cases t with
  | zero => cases h1
  | succ t => rfl
theorem wS_out (g : gS h s K X D n) (h1 : 1 ≤ t) (h6 : t ≤ 6) : (wS h K X M)[X t]? = some (.inl (5, n t, .inr (.inr (.inr (.inr (fun j => if j < n t then some (D t j) else none)))))) := by
  obtain ⟨a, b, c, e⟩ := g.2.2.2 t h1 h6
  rw [wS_no a, e]
theorem gS_n (g : gS h s K X D n) (h1 : 1 ≤ t) (h6 : t ≤ 6) : n t ≤ 50 := (g.2.2.2 t h1 h6).2.2.1
theorem in_nI {k m : Nat} (hk : k < m) (hm : m ≤ 50) : ix_in (nI k) m = true := by
  rw [ix_in_of (by omega)]
  simp [nI_pos (show k < 2 ^ 31 by omega), nI_ge hk (by omega)]
theorem lnR (g : gS h s K X D n) (h1 : 1 ≤ t) (h6 : t ≤ 6) : rN (ixP fv) (wS h K X M) (X t) = some (.int (nI (n t))) := rN_of (wS_out g h1 h6) (by decide)
theorem rwN (g : gS h s K X D n) (h1 : 1 ≤ t) (h6 : t ≤ 6) (hr : r < n t) : rQ (ixP fv) (wS h K X M) (X t) (nI r) = some (.ref (D t r)) := by
  have hn := gS_n g h1 h6
  unfold rQ ix_aq
  rw [wS_out g h1 h6]
  refine (if_pos ⟨(g.2.2.2 t h1 h6).2.1, rfl, in_nI hr hn⟩).trans ?_
  rw [nI_clamp (by omega)]
  show some (ix_rf (if r < n t then some (D t r) else none)) = _
  rw [if_pos hr]
  rfl
theorem rwX (g : gS h s K X D n) (h1 : 1 ≤ t) (h6 : t ≤ 6) (hv : vx i (n t)) : rQ (ixP fv) (wS h K X M) (X t) i = some (.ref (D t i.toNatClampNeg)) := by
  have e := rwN (fv := fv) (M := M) g h1 h6 hv.2
  rw [← hv.1] at e
  exact e
theorem rdA (g : gS h s K X D n) (h1 : 1 ≤ t) (h6 : t ≤ 6) (hr : r < n t) (hj : j < lnS t) (hl : lnS t ≤ 50) : rA (wS h K X M) (D t r) (nI j) = some (.int (M t r j)) := by
  refine (rA_of (wS_row g h1 h6 hr) (in_nI hj hl)).trans ?_
  rw [nI_clamp (by omega)]
theorem wrA (g : gS h s K X D n) (h1 : 1 ≤ t) (h6 : t ≤ 6) (hr : r < n t) (hj : j < lnS t) (hl : lnS t ≤ 50) : wA (ixP fv) (wS h K X M) (D t r) (nI j) v = some (wS h K X (um M t r j v)) := by
  obtain ⟨a, b, c⟩ := g.2.2.1 t r h1 h6 hr
  refine (wA_of (wS_row g h1 h6 hr) b (in_nI hj hl)).trans (congrArg some ?_)
  rw [nI_clamp (by omega)]
  apply List.ext_getElem?
  intro o
  rw [List.getElem?_set, wS_len, wS_get, wS_get]
  by_cases e : D t r = o
  · subst e
    rw [if_pos rfl, if_pos c, List.getElem?_eq_getElem c]
    simp only [Option.map_some, a]
    cases t with
    | zero => cases h1
    | succ t => simp [clS', um]
  · rw [if_neg e]
    cases h[o]? with
    | none => rfl
    | some y =>
      simp only [Option.map_some]
      cases hk : K o with
      | none => rfl
      | some p =>
        obtain ⟨t', r'⟩ := p
        have hi := g.2.1 o t' r' hk
        cases t' with
        | zero =>
          have : ¬ 0 = t := by omega
          simp [clS', obS, um, this]
        | succ t' =>
          rw [if_neg (by omega)] at hi
          have : ¬ (t' + 1 = t ∧ r' = r) := fun q => e (by rw [hi, q.1, q.2])
          simp only [clS']
          by_cases q1 : t' + 1 = t
          · have q2 : ¬ r' = r := fun q => this ⟨q1, q⟩
            simp [um, q1, q2]
          · simp [um, q1]
theorem rS0 {ty : FieldType} {fin : Bool} {Y : Option String} (g : gS h s K X D n) : rF (ixP fv) (wS h K X M) s (7, 0, ty, fin, Y) = some (.int (M 0 0 0)) := rF_of (wS_s g) g.1.1 rfl
theorem rS1 {ty : FieldType} {fin : Bool} {Y : Option String} (g : gS h s K X D n) : rF (ixP fv) (wS h K X M) s (7, 1, ty, fin, Y) = some (.int (M 0 0 1)) := rF_of (wS_s g) g.1.1 rfl
theorem rS2 {ty : FieldType} {fin : Bool} {Y : Option String} (g : gS h s K X D n) : rF (ixP fv) (wS h K X M) s (7, 2, ty, fin, Y) = some (.int (M 0 0 2)) := rF_of (wS_s g) g.1.1 rfl
theorem rS3 {ty : FieldType} {fin : Bool} {Y : Option String} (g : gS h s K X D n) : rF (ixP fv) (wS h K X M) s (7, 3, ty, fin, Y) = some (.int (M 0 0 3)) := rF_of (wS_s g) g.1.1 rfl
theorem rS4 {ty : FieldType} {fin : Bool} {Y : Option String} (g : gS h s K X D n) : rF (ixP fv) (wS h K X M) s (7, 4, ty, fin, Y) = some (.ref (X 1)) := rF_of (wS_s g) g.1.1 rfl
theorem rS5 {ty : FieldType} {fin : Bool} {Y : Option String} (g : gS h s K X D n) : rF (ixP fv) (wS h K X M) s (7, 5, ty, fin, Y) = some (.ref (X 2)) := rF_of (wS_s g) g.1.1 rfl
theorem rS6 {ty : FieldType} {fin : Bool} {Y : Option String} (g : gS h s K X D n) : rF (ixP fv) (wS h K X M) s (7, 6, ty, fin, Y) = some (.ref (X 3)) := rF_of (wS_s g) g.1.1 rfl
theorem rS7 {ty : FieldType} {fin : Bool} {Y : Option String} (g : gS h s K X D n) : rF (ixP fv) (wS h K X M) s (7, 7, ty, fin, Y) = some (.ref (X 4)) := rF_of (wS_s g) g.1.1 rfl
theorem rS8 {ty : FieldType} {fin : Bool} {Y : Option String} (g : gS h s K X D n) : rF (ixP fv) (wS h K X M) s (7, 8, ty, fin, Y) = some (.ref (X 5)) := rF_of (wS_s g) g.1.1 rfl
theorem rS9 {ty : FieldType} {fin : Bool} {Y : Option String} (g : gS h s K X D n) : rF (ixP fv) (wS h K X M) s (7, 9, ty, fin, Y) = some (.ref (X 6)) := rF_of (wS_s g) g.1.1 rfl
theorem wrS {c : Nat} (g : gS h s K X D n) (hc : c < 4) {Y : Option String} {ini : Bool} : wF (ixP fv) (wS h K X M) s (7, c, .int, false, Y) ini (.int v) = some (wS h K X (um M 0 0 c v)) := by
  have hl : c < ([.int (M 0 0 0), .int (M 0 0 1), .int (M 0 0 2), .int (M 0 0 3), .ref (X 1), .ref (X 2), .ref (X 3), .ref (X 4), .ref (X 5), .ref (X 6)] : List Value).length := by
    show c < 10
    omega
  refine (wF_of (wS_s g) g.1.1 hl rfl (Or.inl rfl)).trans (congrArg some ?_)
  apply List.ext_getElem?
  intro o
  rw [List.getElem?_set, wS_len, wS_get, wS_get]
  by_cases e : s = o
  · subst e
    rw [if_pos rfl, if_pos g.1.2.1, List.getElem?_eq_getElem g.1.2.1]
    simp only [Option.map_some, g.1.2.2, clS', obS]
    match c, hc with
    | 0, _ => rfl
    | 1, _ => rfl
    | 2, _ => rfl
    | 3, _ => rfl
  · rw [if_neg e]
    cases h[o]? with
    | none => rfl
    | some y =>
      simp only [Option.map_some]
      cases hk : K o with
      | none => rfl
      | some p =>
        obtain ⟨t', r'⟩ := p
        have hi := g.2.1 o t' r' hk
        cases t' with
        | zero => exact absurd hi.symm (by rw [if_pos rfl]; exact e)
        | succ t' => simp [clS', um]
theorem isS (g : gS h s K X D n) : ix_is (ixP fv) (wS h K X M) s "SkylightWashLaw$Sim" = true := is_of (wS_s g) (by decide +kernel)
theorem lR1 (g : gS h s K X D n) : rN (ixP fv) (wS h K X M) (X 1) = some (.int (nI (n 1))) := lnR g (by decide) (by decide)
theorem rQ1 (g : gS h s K X D n) (hr : r < n 1) : rQ (ixP fv) (wS h K X M) (X 1) (nI r) = some (.ref (D 1 r)) := rwN g (by decide) (by decide) hr
theorem rX1 (g : gS h s K X D n) (hv : vx i (n 1)) : rQ (ixP fv) (wS h K X M) (X 1) i = some (.ref (D 1 i.toNatClampNeg)) := rwX g (by decide) (by decide) hv
theorem c1_0 (g : gS h s K X D n) (hr : r < n 1) : rA (wS h K X M) (D 1 r) 0 = some (.int (M 1 r 0)) := rdA (j := 0) g (by decide) (by decide) hr (by decide) (by decide)
theorem u1_0 (g : gS h s K X D n) (hr : r < n 1) : wA (ixP fv) (wS h K X M) (D 1 r) 0 v = some (wS h K X (um M 1 r 0 v)) := wrA (j := 0) g (by decide) (by decide) hr (by decide) (by decide)
theorem c1_1 (g : gS h s K X D n) (hr : r < n 1) : rA (wS h K X M) (D 1 r) 1 = some (.int (M 1 r 1)) := rdA (j := 1) g (by decide) (by decide) hr (by decide) (by decide)
theorem u1_1 (g : gS h s K X D n) (hr : r < n 1) : wA (ixP fv) (wS h K X M) (D 1 r) 1 v = some (wS h K X (um M 1 r 1 v)) := wrA (j := 1) g (by decide) (by decide) hr (by decide) (by decide)
theorem lR2 (g : gS h s K X D n) : rN (ixP fv) (wS h K X M) (X 2) = some (.int (nI (n 2))) := lnR g (by decide) (by decide)
theorem rQ2 (g : gS h s K X D n) (hr : r < n 2) : rQ (ixP fv) (wS h K X M) (X 2) (nI r) = some (.ref (D 2 r)) := rwN g (by decide) (by decide) hr
theorem rX2 (g : gS h s K X D n) (hv : vx i (n 2)) : rQ (ixP fv) (wS h K X M) (X 2) i = some (.ref (D 2 i.toNatClampNeg)) := rwX g (by decide) (by decide) hv
theorem c2_0 (g : gS h s K X D n) (hr : r < n 2) : rA (wS h K X M) (D 2 r) 0 = some (.int (M 2 r 0)) := rdA (j := 0) g (by decide) (by decide) hr (by decide) (by decide)
theorem u2_0 (g : gS h s K X D n) (hr : r < n 2) : wA (ixP fv) (wS h K X M) (D 2 r) 0 v = some (wS h K X (um M 2 r 0 v)) := wrA (j := 0) g (by decide) (by decide) hr (by decide) (by decide)
theorem c2_1 (g : gS h s K X D n) (hr : r < n 2) : rA (wS h K X M) (D 2 r) 1 = some (.int (M 2 r 1)) := rdA (j := 1) g (by decide) (by decide) hr (by decide) (by decide)
theorem u2_1 (g : gS h s K X D n) (hr : r < n 2) : wA (ixP fv) (wS h K X M) (D 2 r) 1 v = some (wS h K X (um M 2 r 1 v)) := wrA (j := 1) g (by decide) (by decide) hr (by decide) (by decide)
theorem c2_2 (g : gS h s K X D n) (hr : r < n 2) : rA (wS h K X M) (D 2 r) 2 = some (.int (M 2 r 2)) := rdA (j := 2) g (by decide) (by decide) hr (by decide) (by decide)
theorem u2_2 (g : gS h s K X D n) (hr : r < n 2) : wA (ixP fv) (wS h K X M) (D 2 r) 2 v = some (wS h K X (um M 2 r 2 v)) := wrA (j := 2) g (by decide) (by decide) hr (by decide) (by decide)
theorem c2_3 (g : gS h s K X D n) (hr : r < n 2) : rA (wS h K X M) (D 2 r) 3 = some (.int (M 2 r 3)) := rdA (j := 3) g (by decide) (by decide) hr (by decide) (by decide)
theorem u2_3 (g : gS h s K X D n) (hr : r < n 2) : wA (ixP fv) (wS h K X M) (D 2 r) 3 v = some (wS h K X (um M 2 r 3 v)) := wrA (j := 3) g (by decide) (by decide) hr (by decide) (by decide)
theorem lR3 (g : gS h s K X D n) : rN (ixP fv) (wS h K X M) (X 3) = some (.int (nI (n 3))) := lnR g (by decide) (by decide)
theorem rQ3 (g : gS h s K X D n) (hr : r < n 3) : rQ (ixP fv) (wS h K X M) (X 3) (nI r) = some (.ref (D 3 r)) := rwN g (by decide) (by decide) hr
theorem rX3 (g : gS h s K X D n) (hv : vx i (n 3)) : rQ (ixP fv) (wS h K X M) (X 3) i = some (.ref (D 3 i.toNatClampNeg)) := rwX g (by decide) (by decide) hv
theorem c3_0 (g : gS h s K X D n) (hr : r < n 3) : rA (wS h K X M) (D 3 r) 0 = some (.int (M 3 r 0)) := rdA (j := 0) g (by decide) (by decide) hr (by decide) (by decide)
theorem u3_0 (g : gS h s K X D n) (hr : r < n 3) : wA (ixP fv) (wS h K X M) (D 3 r) 0 v = some (wS h K X (um M 3 r 0 v)) := wrA (j := 0) g (by decide) (by decide) hr (by decide) (by decide)
theorem c3_1 (g : gS h s K X D n) (hr : r < n 3) : rA (wS h K X M) (D 3 r) 1 = some (.int (M 3 r 1)) := rdA (j := 1) g (by decide) (by decide) hr (by decide) (by decide)
theorem u3_1 (g : gS h s K X D n) (hr : r < n 3) : wA (ixP fv) (wS h K X M) (D 3 r) 1 v = some (wS h K X (um M 3 r 1 v)) := wrA (j := 1) g (by decide) (by decide) hr (by decide) (by decide)
theorem c3_2 (g : gS h s K X D n) (hr : r < n 3) : rA (wS h K X M) (D 3 r) 2 = some (.int (M 3 r 2)) := rdA (j := 2) g (by decide) (by decide) hr (by decide) (by decide)
theorem u3_2 (g : gS h s K X D n) (hr : r < n 3) : wA (ixP fv) (wS h K X M) (D 3 r) 2 v = some (wS h K X (um M 3 r 2 v)) := wrA (j := 2) g (by decide) (by decide) hr (by decide) (by decide)
theorem c3_3 (g : gS h s K X D n) (hr : r < n 3) : rA (wS h K X M) (D 3 r) 3 = some (.int (M 3 r 3)) := rdA (j := 3) g (by decide) (by decide) hr (by decide) (by decide)
theorem u3_3 (g : gS h s K X D n) (hr : r < n 3) : wA (ixP fv) (wS h K X M) (D 3 r) 3 v = some (wS h K X (um M 3 r 3 v)) := wrA (j := 3) g (by decide) (by decide) hr (by decide) (by decide)
theorem lR4 (g : gS h s K X D n) : rN (ixP fv) (wS h K X M) (X 4) = some (.int (nI (n 4))) := lnR g (by decide) (by decide)
theorem rQ4 (g : gS h s K X D n) (hr : r < n 4) : rQ (ixP fv) (wS h K X M) (X 4) (nI r) = some (.ref (D 4 r)) := rwN g (by decide) (by decide) hr
theorem rX4 (g : gS h s K X D n) (hv : vx i (n 4)) : rQ (ixP fv) (wS h K X M) (X 4) i = some (.ref (D 4 i.toNatClampNeg)) := rwX g (by decide) (by decide) hv
theorem c4_0 (g : gS h s K X D n) (hr : r < n 4) : rA (wS h K X M) (D 4 r) 0 = some (.int (M 4 r 0)) := rdA (j := 0) g (by decide) (by decide) hr (by decide) (by decide)
theorem u4_0 (g : gS h s K X D n) (hr : r < n 4) : wA (ixP fv) (wS h K X M) (D 4 r) 0 v = some (wS h K X (um M 4 r 0 v)) := wrA (j := 0) g (by decide) (by decide) hr (by decide) (by decide)
theorem c4_1 (g : gS h s K X D n) (hr : r < n 4) : rA (wS h K X M) (D 4 r) 1 = some (.int (M 4 r 1)) := rdA (j := 1) g (by decide) (by decide) hr (by decide) (by decide)
theorem u4_1 (g : gS h s K X D n) (hr : r < n 4) : wA (ixP fv) (wS h K X M) (D 4 r) 1 v = some (wS h K X (um M 4 r 1 v)) := wrA (j := 1) g (by decide) (by decide) hr (by decide) (by decide)
theorem c4_2 (g : gS h s K X D n) (hr : r < n 4) : rA (wS h K X M) (D 4 r) 2 = some (.int (M 4 r 2)) := rdA (j := 2) g (by decide) (by decide) hr (by decide) (by decide)
theorem u4_2 (g : gS h s K X D n) (hr : r < n 4) : wA (ixP fv) (wS h K X M) (D 4 r) 2 v = some (wS h K X (um M 4 r 2 v)) := wrA (j := 2) g (by decide) (by decide) hr (by decide) (by decide)
theorem c4_3 (g : gS h s K X D n) (hr : r < n 4) : rA (wS h K X M) (D 4 r) 3 = some (.int (M 4 r 3)) := rdA (j := 3) g (by decide) (by decide) hr (by decide) (by decide)
theorem u4_3 (g : gS h s K X D n) (hr : r < n 4) : wA (ixP fv) (wS h K X M) (D 4 r) 3 v = some (wS h K X (um M 4 r 3 v)) := wrA (j := 3) g (by decide) (by decide) hr (by decide) (by decide)
theorem c4_4 (g : gS h s K X D n) (hr : r < n 4) : rA (wS h K X M) (D 4 r) 4 = some (.int (M 4 r 4)) := rdA (j := 4) g (by decide) (by decide) hr (by decide) (by decide)
theorem u4_4 (g : gS h s K X D n) (hr : r < n 4) : wA (ixP fv) (wS h K X M) (D 4 r) 4 v = some (wS h K X (um M 4 r 4 v)) := wrA (j := 4) g (by decide) (by decide) hr (by decide) (by decide)
theorem lR5 (g : gS h s K X D n) : rN (ixP fv) (wS h K X M) (X 5) = some (.int (nI (n 5))) := lnR g (by decide) (by decide)
theorem rQ5 (g : gS h s K X D n) (hr : r < n 5) : rQ (ixP fv) (wS h K X M) (X 5) (nI r) = some (.ref (D 5 r)) := rwN g (by decide) (by decide) hr
theorem rX5 (g : gS h s K X D n) (hv : vx i (n 5)) : rQ (ixP fv) (wS h K X M) (X 5) i = some (.ref (D 5 i.toNatClampNeg)) := rwX g (by decide) (by decide) hv
theorem c5_0 (g : gS h s K X D n) (hr : r < n 5) : rA (wS h K X M) (D 5 r) 0 = some (.int (M 5 r 0)) := rdA (j := 0) g (by decide) (by decide) hr (by decide) (by decide)
theorem u5_0 (g : gS h s K X D n) (hr : r < n 5) : wA (ixP fv) (wS h K X M) (D 5 r) 0 v = some (wS h K X (um M 5 r 0 v)) := wrA (j := 0) g (by decide) (by decide) hr (by decide) (by decide)
theorem c5_1 (g : gS h s K X D n) (hr : r < n 5) : rA (wS h K X M) (D 5 r) 1 = some (.int (M 5 r 1)) := rdA (j := 1) g (by decide) (by decide) hr (by decide) (by decide)
theorem u5_1 (g : gS h s K X D n) (hr : r < n 5) : wA (ixP fv) (wS h K X M) (D 5 r) 1 v = some (wS h K X (um M 5 r 1 v)) := wrA (j := 1) g (by decide) (by decide) hr (by decide) (by decide)
theorem c5_2 (g : gS h s K X D n) (hr : r < n 5) : rA (wS h K X M) (D 5 r) 2 = some (.int (M 5 r 2)) := rdA (j := 2) g (by decide) (by decide) hr (by decide) (by decide)
theorem u5_2 (g : gS h s K X D n) (hr : r < n 5) : wA (ixP fv) (wS h K X M) (D 5 r) 2 v = some (wS h K X (um M 5 r 2 v)) := wrA (j := 2) g (by decide) (by decide) hr (by decide) (by decide)
theorem c5_3 (g : gS h s K X D n) (hr : r < n 5) : rA (wS h K X M) (D 5 r) 3 = some (.int (M 5 r 3)) := rdA (j := 3) g (by decide) (by decide) hr (by decide) (by decide)
theorem u5_3 (g : gS h s K X D n) (hr : r < n 5) : wA (ixP fv) (wS h K X M) (D 5 r) 3 v = some (wS h K X (um M 5 r 3 v)) := wrA (j := 3) g (by decide) (by decide) hr (by decide) (by decide)
theorem lR6 (g : gS h s K X D n) : rN (ixP fv) (wS h K X M) (X 6) = some (.int (nI (n 6))) := lnR g (by decide) (by decide)
theorem rQ6 (g : gS h s K X D n) (hr : r < n 6) : rQ (ixP fv) (wS h K X M) (X 6) (nI r) = some (.ref (D 6 r)) := rwN g (by decide) (by decide) hr
theorem rX6 (g : gS h s K X D n) (hv : vx i (n 6)) : rQ (ixP fv) (wS h K X M) (X 6) i = some (.ref (D 6 i.toNatClampNeg)) := rwX g (by decide) (by decide) hv
theorem c6_0 (g : gS h s K X D n) (hr : r < n 6) : rA (wS h K X M) (D 6 r) 0 = some (.int (M 6 r 0)) := rdA (j := 0) g (by decide) (by decide) hr (by decide) (by decide)
theorem u6_0 (g : gS h s K X D n) (hr : r < n 6) : wA (ixP fv) (wS h K X M) (D 6 r) 0 v = some (wS h K X (um M 6 r 0 v)) := wrA (j := 0) g (by decide) (by decide) hr (by decide) (by decide)
theorem c6_1 (g : gS h s K X D n) (hr : r < n 6) : rA (wS h K X M) (D 6 r) 1 = some (.int (M 6 r 1)) := rdA (j := 1) g (by decide) (by decide) hr (by decide) (by decide)
theorem u6_1 (g : gS h s K X D n) (hr : r < n 6) : wA (ixP fv) (wS h K X M) (D 6 r) 1 v = some (wS h K X (um M 6 r 1 v)) := wrA (j := 1) g (by decide) (by decide) hr (by decide) (by decide)
theorem c6_2 (g : gS h s K X D n) (hr : r < n 6) : rA (wS h K X M) (D 6 r) 2 = some (.int (M 6 r 2)) := rdA (j := 2) g (by decide) (by decide) hr (by decide) (by decide)
theorem u6_2 (g : gS h s K X D n) (hr : r < n 6) : wA (ixP fv) (wS h K X M) (D 6 r) 2 v = some (wS h K X (um M 6 r 2 v)) := wrA (j := 2) g (by decide) (by decide) hr (by decide) (by decide)
theorem c6_3 (g : gS h s K X D n) (hr : r < n 6) : rA (wS h K X M) (D 6 r) 3 = some (.int (M 6 r 3)) := rdA (j := 3) g (by decide) (by decide) hr (by decide) (by decide)
theorem u6_3 (g : gS h s K X D n) (hr : r < n 6) : wA (ixP fv) (wS h K X M) (D 6 r) 3 v = some (wS h K X (um M 6 r 3 v)) := wrA (j := 3) g (by decide) (by decide) hr (by decide) (by decide)
theorem c6_4 (g : gS h s K X D n) (hr : r < n 6) : rA (wS h K X M) (D 6 r) 4 = some (.int (M 6 r 4)) := rdA (j := 4) g (by decide) (by decide) hr (by decide) (by decide)
theorem u6_4 (g : gS h s K X D n) (hr : r < n 6) : wA (ixP fv) (wS h K X M) (D 6 r) 4 v = some (wS h K X (um M 6 r 4 v)) := wrA (j := 4) g (by decide) (by decide) hr (by decide) (by decide)
theorem c6_5 (g : gS h s K X D n) (hr : r < n 6) : rA (wS h K X M) (D 6 r) 5 = some (.int (M 6 r 5)) := rdA (j := 5) g (by decide) (by decide) hr (by decide) (by decide)
theorem u6_5 (g : gS h s K X D n) (hr : r < n 6) : wA (ixP fv) (wS h K X M) (D 6 r) 5 v = some (wS h K X (um M 6 r 5 v)) := wrA (j := 5) g (by decide) (by decide) hr (by decide) (by decide)
theorem c6_6 (g : gS h s K X D n) (hr : r < n 6) : rA (wS h K X M) (D 6 r) 6 = some (.int (M 6 r 6)) := rdA (j := 6) g (by decide) (by decide) hr (by decide) (by decide)
theorem u6_6 (g : gS h s K X D n) (hr : r < n 6) : wA (ixP fv) (wS h K X M) (D 6 r) 6 v = some (wS h K X (um M 6 r 6 v)) := wrA (j := 6) g (by decide) (by decide) hr (by decide) (by decide)
theorem c6_7 (g : gS h s K X D n) (hr : r < n 6) : rA (wS h K X M) (D 6 r) 7 = some (.int (M 6 r 7)) := rdA (j := 7) g (by decide) (by decide) hr (by decide) (by decide)
theorem u6_7 (g : gS h s K X D n) (hr : r < n 6) : wA (ixP fv) (wS h K X M) (D 6 r) 7 v = some (wS h K X (um M 6 r 7 v)) := wrA (j := 7) g (by decide) (by decide) hr (by decide) (by decide)
theorem c6_8 (g : gS h s K X D n) (hr : r < n 6) : rA (wS h K X M) (D 6 r) 8 = some (.int (M 6 r 8)) := rdA (j := 8) g (by decide) (by decide) hr (by decide) (by decide)
theorem u6_8 (g : gS h s K X D n) (hr : r < n 6) : wA (ixP fv) (wS h K X M) (D 6 r) 8 v = some (wS h K X (um M 6 r 8 v)) := wrA (j := 8) g (by decide) (by decide) hr (by decide) (by decide)
theorem c6_9 (g : gS h s K X D n) (hr : r < n 6) : rA (wS h K X M) (D 6 r) 9 = some (.int (M 6 r 9)) := rdA (j := 9) g (by decide) (by decide) hr (by decide) (by decide)
theorem u6_9 (g : gS h s K X D n) (hr : r < n 6) : wA (ixP fv) (wS h K X M) (D 6 r) 9 v = some (wS h K X (um M 6 r 9 v)) := wrA (j := 9) g (by decide) (by decide) hr (by decide) (by decide)
end SIM
