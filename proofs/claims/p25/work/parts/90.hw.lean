/-! THE LAW'S HEAP: the class, its trial and Sim side by side. -/
def HW (H : ix_H) (b tp rd pl t t2 tb : Nat) (lea len : Int32) (Q A Z : Mem) (s : Nat) (K : Nat → Option (Nat × Nat)) (X : Nat → Nat) (D : Nat → Nat → Nat) (n : Nat → Nat) (M : Mm) : Prop :=
  (gW H b tp rd pl t t2 tb lea len ∧ b < tp ∧ t + 10 ≤ t2 ∧ t2 + 10 ≤ H.length) ∧ (∀ k, k < 22 → H[pl + k]? = (plc pl Q)[k]?) ∧ (∀ k, k < 10 → H[t + k]? = (arc t pl A)[k]?) ∧ (∃ p2, ∀ k, k < 10 → H[t2 + k]? = (arc t2 p2 Z)[k]?) ∧ gS H s K X D n ∧ (∀ o p, K o = some p → o < b ∧ H[o]? = some (clS' X M p)) ∧ ∀ t', 1 ≤ t' → t' ≤ 6 → X t' < b
section HWS
variable {fv : Value} {d : Nat} {H : ix_H} {b tp rd pl t t2 tb : Nat} {lea len : Int32} {Q A A' Z Z' : Mem} {s : Nat} {K : Nat → Option (Nat × Nat)} {X : Nat → Nat} {D : Nat → Nat → Nat} {n : Nat → Nat} {M M' : Mm}
theorem HW_P (g : HW H b tp rd pl t t2 tb lea len Q A Z s K X D n M) : wP H pl Q = H := ov_self (cs := plc pl Q) g.2.1
theorem HW_A (g : HW H b tp rd pl t t2 tb lea len Q A Z s K X D n M) : wAr H pl t Q A = H := by
  unfold wAr
  rw [HW_P g]
  exact ov_self (cs := arc t pl A) g.2.2.1
theorem HW_Z (g : HW H b tp rd pl t t2 tb lea len Q A Z s K X D n M) : ∃ p2, wC H pl t2 p2 Q Z = H := by
  obtain ⟨p2, h⟩ := g.2.2.2.1
  refine ⟨p2, ?_⟩
  unfold wC
  rw [HW_P g]
  exact ov_self (cs := arc t2 p2 Z) h
theorem HW_T (g : HW H b tp rd pl t t2 tb lea len Q A Z s K X D n M) : gT H b tp rd pl t t2 lea A := by
  obtain ⟨⟨⟨⟨a1, a2, a3⟩, b1, b2, b3, b4, b5, b6⟩, c1, c2, c3⟩, -, h, -⟩ := g
  exact ⟨⟨a1, by omega, c3⟩, b1, b2, a2, c2, b5, h⟩
theorem HW_S (g : HW H b tp rd pl t t2 tb lea len Q A Z s K X D n M) : wS H K X M = H := by
  apply List.ext_getElem?
  intro o
  cases e : K o with
  | none => exact wS_no e
  | some p =>
    obtain ⟨-, h⟩ := g.2.2.2.2.2.1 o p e
    rw [wS_yes e (lt_of h), h]
/-- another heap that agrees where it must -/
theorem HW_of {H' : ix_H} (g : HW H b tp rd pl t t2 tb lea len Q A Z s K X D n M) (hl : H.length ≤ H'.length) (hA : ∀ k, k < 10 → H'[t + k]? = (arc t pl A')[k]?) (hZ : ∃ p2, ∀ k, k < 10 → H'[t2 + k]? = (arc t2 p2 Z')[k]?) (hM : ∀ o p, K o = some p → H'[o]? = some (clS' X M' p)) (ho : ∀ o, o < t2 + 10 → K o = none → (o < t ∨ t + 10 ≤ o) → (o < t2 ∨ t2 + 10 ≤ o) → H'[o]? = H[o]?) : HW H' b tp rd pl t t2 tb lea len Q A' Z' s K X D n M' := by
  obtain ⟨⟨⟨⟨a1, a2, a3⟩, b1, b2, b3, b4, b5, b6⟩, c1, c2, c3⟩, hP, -, -, ⟨⟨g1, g2, g3⟩, g4, g5, g6⟩, hK, hX⟩ := g
  have kn : ∀ o, b ≤ o → K o = none := fun o h => by
    cases e : K o with
    | none => rfl
    | some p => have := (hK o p e).1; omega
  refine ⟨⟨⟨⟨a1, a2, by omega⟩, b1, b2, b3, b4, ?_, ?_⟩, c1, c2, by omega⟩, fun k hk => ?_, hA, hZ, ⟨⟨g1, by omega, g3⟩, g4, fun t' r h1 h6 hr => ?_, fun t' h1 h6 => ?_⟩, fun o p e => ⟨(hK o p e).1, hM o p e⟩, hX⟩
  · rw [ho b (by omega) (kn b (Nat.le_refl _)) (by omega) (by omega)]; exact b5
  · rw [ho tp (by omega) (kn tp (by omega)) (by omega) (by omega)]; exact b6
  · rw [ho (pl + k) (by omega) (kn _ (by omega)) (by omega) (by omega)]; exact hP k hk
  · obtain ⟨x1, x2, x3⟩ := g5 t' r h1 h6 hr
    exact ⟨x1, x2, by omega⟩
  · obtain ⟨x1, x2, x3, x4⟩ := g6 t' h1 h6
    have := hX t' h1 h6
    refine ⟨x1, x2, x3, ?_⟩
    rw [ho (X t') (by omega) x1 (by omega) (by omega)]; exact x4
theorem HW_lt (g : HW H b tp rd pl t t2 tb lea len Q A Z s K X D n M) : b < tp ∧ tp < pl ∧ pl + 22 ≤ t ∧ t + 10 ≤ t2 ∧ t2 + 10 ≤ H.length ∧ 98 ≤ b := by
  obtain ⟨⟨⟨⟨a1, a2, a3⟩, b1, b2, b3, b4, b5, b6⟩, c1, c2, c3⟩, -⟩ := g
  exact ⟨c1, b4, a2, c2, c3, b1⟩
/-- the class has changed its state -/
theorem HW_putA (g : HW H b tp rd pl t t2 tb lea len Q A Z s K X D n M) : HW (wAr H pl t Q A') b tp rd pl t t2 tb lea len Q A' Z s K X D n M := by
  obtain ⟨l1, l2, l3, l4, l5, l6⟩ := HW_lt g
  have e : wAr H pl t Q A' = ov H t (arc t pl A') := by unfold wAr; rw [HW_P g]
  rw [e]
  have hlen : (arc t pl A').length = 10 := rfl
  refine HW_of g (Nat.le_of_eq (ov_len _ _ _).symm) (fun k hk => ov_in (by rw [hlen]; omega) (by rw [hlen]; exact hk)) ?_ (fun o p h => ?_) (fun o _ _ h1 _ => ?_)
  · obtain ⟨p2, h⟩ := g.2.2.2.1
    exact ⟨p2, fun k hk => (ov_hi (by rw [hlen]; omega)).trans (h k hk)⟩
  · obtain ⟨h1, h2⟩ := g.2.2.2.2.2.1 o p h
    exact (ov_lo (by omega)).trans h2
  · rcases h1 with h1 | h1
    · exact ov_lo h1
    · exact ov_hi (by rw [hlen]; exact h1)
/-- the trial has changed its state -/
theorem HW_putZ (g : HW H b tp rd pl t t2 tb lea len Q A Z s K X D n M) {p2 : Nat} : HW (wC H pl t2 p2 Q Z') b tp rd pl t t2 tb lea len Q A Z' s K X D n M := by
  obtain ⟨l1, l2, l3, l4, l5, l6⟩ := HW_lt g
  have e : wC H pl t2 p2 Q Z' = ov H t2 (arc t2 p2 Z') := by unfold wC; rw [HW_P g]
  rw [e]
  have hlen : (arc t2 p2 Z').length = 10 := rfl
  refine HW_of g (Nat.le_of_eq (ov_len _ _ _).symm) (fun k hk => (ov_lo (by omega)).trans (g.2.2.1 k hk)) ⟨p2, fun k hk => ov_in (by rw [hlen]; omega) (by rw [hlen]; exact hk)⟩ (fun o p h => ?_) (fun o _ _ _ h1 => ?_)
  · obtain ⟨h1, h2⟩ := g.2.2.2.2.2.1 o p h
    exact (ov_lo (by omega)).trans h2
  · rcases h1 with h1 | h1
    · exact ov_lo h1
    · exact ov_hi (by rw [hlen]; exact h1)
/-- Sim has changed its state -/
theorem HW_putS (g : HW H b tp rd pl t t2 tb lea len Q A Z s K X D n M) : HW (wS H K X M') b tp rd pl t t2 tb lea len Q A Z s K X D n M' := by
  obtain ⟨l1, l2, l3, l4, l5, l6⟩ := HW_lt g
  have kn : ∀ o, b ≤ o → K o = none := fun o h => by
    cases e : K o with
    | none => rfl
    | some p => have := (g.2.2.2.2.2.1 o p e).1; omega
  refine HW_of g (Nat.le_of_eq wS_len.symm) (fun k hk => (wS_no (kn _ (by omega))).trans (g.2.2.1 k hk)) ?_ (fun o p h => ?_) (fun o _ h _ _ => wS_no h)
  · obtain ⟨p2, h⟩ := g.2.2.2.1
    exact ⟨p2, fun k hk => (wS_no (kn _ (by omega))).trans (h k hk)⟩
  · exact wS_yes h (lt_of (g.2.2.2.2.2.1 o p h).2)
/-- something new behind it -/
theorem HW_push (g : HW H b tp rd pl t t2 tb lea len Q A Z s K X D n M) {l : List ix_C} : HW (H ++ l) b tp rd pl t t2 tb lea len Q A Z s K X D n M := by
  obtain ⟨l1, l2, l3, l4, l5, l6⟩ := HW_lt g
  have keep : ∀ o, o < H.length → (H ++ l)[o]? = H[o]? := fun o h => List.getElem?_append_left h
  refine HW_of g (by rw [List.length_append]; omega) (fun k hk => (keep _ (by omega)).trans (g.2.2.1 k hk)) ?_ (fun o p h => ?_) (fun o h _ _ _ => keep o (by omega))
  · obtain ⟨p2, h⟩ := g.2.2.2.1
    exact ⟨p2, fun k hk => (keep _ (by omega)).trans (h k hk)⟩
  · obtain ⟨h1, h2⟩ := g.2.2.2.2.2.1 o p h
    exact (keep _ (by omega)).trans h2
/-- a cell behind it has changed -/
theorem HW_set (g : HW H b tp rd pl t t2 tb lea len Q A Z s K X D n M) {o : Nat} {c : ix_C} (h : t2 + 10 ≤ o) : HW (H.set o c) b tp rd pl t t2 tb lea len Q A Z s K X D n M := by
  obtain ⟨l1, l2, l3, l4, l5, l6⟩ := HW_lt g
  have keep : ∀ k, k < t2 + 10 → (H.set o c)[k]? = H[k]? := fun k hk => List.getElem?_set_ne (by omega)
  refine HW_of g (by rw [List.length_set]; exact Nat.le_refl _) (fun k hk => (keep _ (by omega)).trans (g.2.2.1 k hk)) ?_ (fun o' p h' => ?_) (fun o' h' _ _ _ => keep o' h')
  · obtain ⟨p2, h'⟩ := g.2.2.2.1
    exact ⟨p2, fun k hk => (keep _ (by omega)).trans (h' k hk)⟩
  · obtain ⟨h1, h2⟩ := g.2.2.2.2.2.1 o' p h'
    exact (keep _ (by omega)).trans h2
end HWS
