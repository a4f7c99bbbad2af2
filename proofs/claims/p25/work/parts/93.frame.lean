/-! THE LAW'S HEAP: what stays. -/
/-- as long, as large, and the same where neither the class nor Sim lies -/
def FR (H H' : ix_H) (t2 : Nat) : Prop := H'.length = H.length ∧ ix_sz H' = ix_sz H ∧ ∀ o, o < 98 ∨ t2 + 10 ≤ o → H'[o]? = H[o]?
theorem FR_r {H : ix_H} {t2 : Nat} : FR H H t2 := ⟨rfl, rfl, fun _ _ => rfl⟩
theorem FR_t {H H1 H2 : ix_H} {t2 : Nat} (h : FR H H1 t2) (h' : FR H1 H2 t2) : FR H H2 t2 := ⟨h'.1.trans h.1, h'.2.1.trans h.2.1, fun o ho => (h'.2.2 o ho).trans (h.2.2 o ho)⟩
theorem sz_of {H H' : ix_H} (h : ∀ o : Nat, (H'[o]?).map ix_cs = (H[o]?).map ix_cs) : ix_sz H' = ix_sz H := by
  unfold ix_sz
  congr 1
  apply List.ext_getElem?
  intro o
  rw [List.getElem?_map, List.getElem?_map]
  exact h o
theorem sz_ov {H : ix_H} {t : Nat} {cs cs' : List ix_C} (hb : t + cs.length ≤ H.length) (h0 : ∀ k, k < cs.length → H[t + k]? = cs[k]?) (hl : cs'.length = cs.length) (hs : cs'.map ix_cs = cs.map ix_cs) : ix_sz (ov H t cs') = ix_sz H := by
  refine sz_of fun o => ?_
  rw [ov_g]
  split
  · next c =>
    obtain ⟨k, rfl⟩ : ∃ k, o = t + k := ⟨o - t, by omega⟩
    rw [h0 k (by omega), Nat.add_sub_cancel_left]
    have := congrArg (fun l => l[k]?) hs
    simpa only [List.getElem?_map] using this
  · rfl
section FRS
variable {H : ix_H} {b tp rd pl t t2 tb p2 : Nat} {lea len : Int32} {Q A A' Z Z' : Mem} {s : Nat} {K : Nat → Option (Nat × Nat)} {X : Nat → Nat} {D : Nat → Nat → Nat} {n : Nat → Nat} {M M' : Mm}
theorem arc_cs {q q' : Nat} : (arc t q A').map ix_cs = (arc t q' A).map ix_cs := rfl
theorem FR_A (g : HW H b tp rd pl t t2 tb lea len Q A Z s K X D n M) : FR H (wAr H pl t Q A') t2 := by
  obtain ⟨l1, l2, l3, l4, l5, l6⟩ := HW_lt g
  have e : wAr H pl t Q A' = ov H t (arc t pl A') := by unfold wAr; rw [HW_P g]
  rw [e]
  have hlen : (arc t pl A').length = 10 := rfl
  refine ⟨ov_len _ _ _, sz_ov (cs := arc t pl A) (by show t + 10 ≤ _; omega) g.2.2.1 rfl arc_cs, fun o ho => ?_⟩
  rcases ho with ho | ho
  · exact ov_lo (by omega)
  · exact ov_hi (by rw [hlen]; omega)
theorem FR_Z (g : HW H b tp rd pl t t2 tb lea len Q A Z s K X D n M) : FR H (wC H pl t2 p2 Q Z') t2 := by
  obtain ⟨l1, l2, l3, l4, l5, l6⟩ := HW_lt g
  have e : wC H pl t2 p2 Q Z' = ov H t2 (arc t2 p2 Z') := by unfold wC; rw [HW_P g]
  rw [e]
  have hlen : (arc t2 p2 Z').length = 10 := rfl
  obtain ⟨q2, h⟩ := g.2.2.2.1
  refine ⟨ov_len _ _ _, sz_ov (cs := arc t2 q2 Z) (by show t2 + 10 ≤ _; omega) h rfl arc_cs, fun o ho => ?_⟩
  rcases ho with ho | ho
  · exact ov_lo (by omega)
  · exact ov_hi (by rw [hlen]; exact ho)
theorem FR_S (g : HW H b tp rd pl t t2 tb lea len Q A Z s K X D n M) (h98 : ∀ o p, K o = some p → 98 ≤ o) : FR H (wS H K X M') t2 := by
  obtain ⟨l1, l2, l3, l4, l5, l6⟩ := HW_lt g
  refine ⟨wS_len, sz_of fun o => ?_, fun o ho => wS_no ?_⟩
  · cases e : K o with
    | none => rw [wS_no e]
    | some p =>
      have h := (g.2.2.2.2.2.1 o p e).2
      rw [wS_yes e (lt_of h), h]
      obtain ⟨t', r⟩ := p
      show some (ix_cs (clS' X M' (t', r))) = some (ix_cs (clS' X M (t', r)))
      congr 1
      cases t' <;> rfl
  · cases e : K o with
    | none => rfl
    | some p =>
      have h1 := (g.2.2.2.2.2.1 o p e).1
      have h2 := h98 o p e
      omega
end FRS
