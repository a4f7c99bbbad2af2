/-! THE LAW: a round; what is foreseen, all four (written by gen9982.py). -/
section LAWR10
variable {fv : Value} {d : Nat} {H : ix_H} {b tp rd pl t t2 tb o : Nat} {lea len : Int32} {Q A A' Z Z' : Mem} {s : Nat} {K : Nat → Option (Nat × Nat)} {X : Nat → Nat} {D : Nat → Nat → Nat} {n fb : Nat → Nat} {M M' : Mm} {p c f q m k v j : Nat} {w i x : Int32} {F : Nat → Nat → Int32} {l0 l1 l2 l3 l4 l5 l6 l7 l8 l9 l10 l11 l12 l13 l14 l15 l16 l17 l18 l19 l20 l21 l22 l23 l24 l25 l26 l27 l28 l29 l30 l31 : Option Value} {f : Nat → Int32}
theorem r20_all : ∀ (r k : Nat) (H : ix_H) (Z : Mem) (f : Nat → Int32), k + r = 4 → HI H b tp rd pl t t2 tb lea len Q A Z s K X D n M fb → H[o]? = some (.inl (0, 4, .inl f)) → t2 + 10 ≤ o → (∀ i, i < k → f i = f20 M n i) → ∃ H' Z' f', xe (ixP fv) (d + 10) 0 782 [l0, l1, l2, some (.ref (b)), l4, l5, l6, l7, l8, l9, l10, l11, l12, l13, l14, l15, l16, l17, l18, l19, some (.ref (o)), some (.int (nI (k))), l22, l23, l24, l25, l26, l27, l28, l29, l30, l31] [] H = xe (ixP fv) (d + 10) 0 782 [l0, l1, l2, some (.ref (b)), l4, l5, l6, l7, l8, l9, l10, l11, l12, l13, l14, l15, l16, l17, l18, l19, some (.ref (o)), some (.int (nI (4))), l22, l23, l24, l25, l26, l27, l28, l29, l30, l31] [] H' ∧ HI H' b tp rd pl t t2 tb lea len Q A Z' s K X D n M fb ∧ H'[o]? = some (.inl (0, 4, .inl f')) ∧ (∀ i, i < 4 → f' i = f20 M n i) ∧ H'.length = H.length ∧ ix_sz H' = ix_sz H ∧ ∀ q, q ≠ o → (q < 98 ∨ t2 + 10 ≤ q) → H'[q]? = H[q]?
  | 0, k, H, Z, f, e, g, hr, ho, hf => by
    have : k = 4 := by omega
    subst this
    exact ⟨H, Z, f, rfl, g, hr, hf, rfl, rfl, fun _ _ _ => rfl⟩
  | r + 1, k, H, Z, f, e, g, hr, ho, hf => by
    obtain ⟨H1, Z1, g1, fr, s1⟩ := r20_step (fv := fv) (d := d) (k := k) (l0 := l0) (l1 := l1) (l2 := l2) (l4 := l4) (l5 := l5) (l6 := l6) (l7 := l7) (l8 := l8) (l9 := l9) (l10 := l10) (l11 := l11) (l12 := l12) (l13 := l13) (l14 := l14) (l15 := l15) (l16 := l16) (l17 := l17) (l18 := l18) (l19 := l19) (l22 := l22) (l23 := l23) (l24 := l24) (l25 := l25) (l26 := l26) (l27 := l27) (l28 := l28) (l29 := l29) (l30 := l30) (l31 := l31) g hr ho (by omega)
    have hr1 : H1[o]? = some (.inl (0, 4, .inl f)) := (fr.2.2 o (Or.inr ho)).trans hr
    have z1 : (H1.set o (.inl (0, 4, .inl (upd f k (f20 M n k))))).length = H.length := by rw [List.length_set]; exact fr.1
    have z2 : ix_sz (H1.set o (.inl (0, 4, .inl (upd f k (f20 M n k))))) = ix_sz H := by
      rw [ix_sz_set _ o (.inl (0, 4, .inl f)) (.inl (0, 4, .inl (upd f k (f20 M n k)))) hr1 rfl]
      exact fr.2.1
    have z3 : ∀ q, q ≠ o → (q < 98 ∨ t2 + 10 ≤ q) → (H1.set o (.inl (0, 4, .inl (upd f k (f20 M n k)))))[q]? = H[q]? := fun q hq h => by
      rw [List.getElem?_set_ne (fun e => hq e.symm)]
      exact fr.2.2 q h
    obtain ⟨H', Z', f', e1, g2, y0, y1, y2, y3, y4⟩ := r20_all r (k + 1) _ Z1 (upd f k (f20 M n k)) (by omega) (HI_set g1 ho) (get_set hr1) ho (fun i hi => by
      by_cases c : i = k
      · subst c
        rw [upd_eq]
      · rw [upd_ne c]
        exact hf i (by omega))
    exact ⟨H', Z', f', s1.trans e1, g2, y0, y1, y2.trans z1, y3.trans z2, fun q hq h => (y4 q hq h).trans (z3 q hq h)⟩
end LAWR10
