/-! THE HEAP OF THE LOOP (written by gen9999994.py). -/
/-- which place is which row of Sim -/
noncomputable def KK (s : Nat) (D : Nat → Nat → Nat) (n : Nat → Nat) (o : Nat) : Option (Nat × Nat) := if o = s then some (0, 0) else @dite _ (∃ p : Nat × Nat, 1 ≤ p.1 ∧ p.1 ≤ 6 ∧ p.2 < n p.1 ∧ D p.1 p.2 = o) (Classical.propDecidable _) (fun hx => some (Classical.choose hx)) (fun _ => none)
section HEAP
variable {fv : Value} {d : Nat} {h H : ix_H} {o v s b N t r : Nat} {xs : Nat → Int32} {l : List Int32} {X : Nat → Nat} {D : Nat → Nat → Nat} {ce : Nat → Int32} {Q : Mem} {p : Nat × Nat} {n : Nat → Nat} {M : Mm}
theorem KK_s : KK s D n s = some (0, 0) := if_pos rfl
theorem KK_some (e : KK s D n o = some p) : (o = s ∧ p = (0, 0)) ∨ (1 ≤ p.1 ∧ p.1 ≤ 6 ∧ p.2 < n p.1 ∧ D p.1 p.2 = o) := by
  unfold KK at e
  by_cases c : o = s
  · rw [if_pos c] at e
    exact Or.inl ⟨c, (Option.some.inj e).symm⟩
  · rw [if_neg c] at e
    by_cases hx : ∃ p : Nat × Nat, 1 ≤ p.1 ∧ p.1 ≤ 6 ∧ p.2 < n p.1 ∧ D p.1 p.2 = o
    · rw [dif_pos hx] at e
      have := Classical.choose_spec hx
      rw [Option.some.inj e] at this
      exact Or.inr this
    · rw [dif_neg hx] at e
      cases e
theorem KK_D (g : LB N xs h o v l s X D n n M) (h1 : 1 ≤ t) (h6 : t ≤ 6) (hr : r < n t) : KK s D n (D t r) = some (t, r) := by
  obtain ⟨g1, g2, g3, ⟨g4, g5⟩, g6, g7, g8, g9⟩ := g
  have ns : ¬ D t r = s := fun e => by
    have := (g7 t r h1 h6 hr).2
    rw [e, g5] at this
    cases this
  unfold KK
  rw [if_neg ns]
  have hx : ∃ p : Nat × Nat, 1 ≤ p.1 ∧ p.1 ≤ 6 ∧ p.2 < n p.1 ∧ D p.1 p.2 = D t r := ⟨(t, r), h1, h6, hr, rfl⟩
  rw [dif_pos hx]
  obtain ⟨c1, c2, c3, c4⟩ := Classical.choose_spec hx
  obtain ⟨e1, e2⟩ := g8 _ _ _ _ c1 c2 c3 h1 h6 hr c4
  exact congrArg some (Prod.ext e1 e2)
theorem KK_X (g : LB N xs h o v l s X D n n M) (h1 : 1 ≤ t) (h6 : t ≤ 6) : KK s D n (X t) = none := by
  rcases e : KK s D n (X t) with _ | p
  · rfl
  exfalso
  obtain ⟨g1, g2, g3, ⟨g4, g5⟩, g6, g7, g8, g9⟩ := g
  have hX := (g6 t h1 h6).2.2.2
  rcases KK_some e with ⟨c1, c2⟩ | ⟨c1, c2, c3, c4⟩
  · rw [c1, g5] at hX
    cases hX
  · have := (g7 p.1 p.2 c1 c2 c3).2
    rw [c4, hX] at this
    have := congrArg (fun z : Option ix_C => match z with | some (.inl (k, _, _)) => k | _ => 9) this
    exact absurd this (by show ¬ 5 = 0; decide)
theorem KK_c (g : LB N xs h o v l s X D n n M) {q : Nat} (e : KK s D n q = some p) : 98 ≤ q ∧ h[q]? = some (clS' X M p) := by
  obtain ⟨g1, g2, g3, ⟨g4, g5⟩, g6, g7, g8, g9⟩ := g
  rcases KK_some e with ⟨c1, c2⟩ | ⟨c1, c2, c3, c4⟩
  · subst c1 c2
    exact ⟨g4, g5⟩
  · obtain ⟨x1, x2⟩ := g7 p.1 p.2 c1 c2 c3
    rw [c4] at x1 x2
    refine ⟨x1, x2.trans ?_⟩
    obtain ⟨t, r⟩ := p
    obtain ⟨u, hu⟩ : ∃ u, t = u + 1 := ⟨t - 1, by have : 1 ≤ t := c1; omega⟩
    subst hu
    rfl
/-- the loop's heap -/
theorem H_0 (g : LB N xs h o v l s X D (nW ce) (nW ce) (WM ce)) (hb : h.length = b) (k0 : ∀ q, q < b → H[q]? = h[q]?) (hlen : b + 77 ≤ H.length) (cb : H[b]? = some (.inr (6, [.ref (b + 1), .ref (b + 3), .ref (b + 57), .ref (b + 67), .int (-1)]))) (ct : H[b + 1]? = some (.inr (4, [.ref (b + 2), .int 0]))) (cp : ∀ k, k < 22 → H[b + 13 + k]? = (plc (b + 13) Q)[k]?) (ca : ∀ k, k < 10 → H[b + 57 + k]? = (arc (b + 57) (b + 13) (bgL Q A00))[k]?) (cz : ∀ k, k < 10 → H[b + 67 + k]? = (arc (b + 67) (b + 35) A00)[k]?) (inv : INV Q (bgL Q A00) (WM ce) (nW ce) (fS ce)) : HI H b (b + 1) (b + 3) (b + 13) (b + 57) (b + 67) (b + 2) (-1) 0 Q (bgL Q A00) A00 s (KK s D (nW ce)) X D (nW ce) (WM ce) (fS ce) := by
  have h98 : 98 ≤ b := hb ▸ g.2.2.1
  have hs := g.2.2.2.1
  have hsl : s < b := hb ▸ lt_of hs.2
  have hXl : ∀ t', 1 ≤ t' → t' ≤ 6 → X t' < b := fun t' a1 a6 => hb ▸ lt_of (g.2.2.2.2.1 t' a1 a6).2.2.2
  have hKl : ∀ q p, KK s D (nW ce) q = some p → q < b := fun q p e => hb ▸ lt_of (KK_c g e).2
  have h4 := n4_b (ce := ce)
  have h5 := n5_b (ce := ce)
  refine ⟨⟨⟨⟨⟨by omega, by omega, by omega⟩, by omega, by omega, by omega, by omega, cb, ct⟩, by omega, by omega, by omega⟩, cp, ca, ⟨_, cz⟩, ⟨⟨hs.1, by omega, KK_s⟩, fun q t r e => ?_, fun t r a1 a6 hr => ?_, fun t a1 a6 => ?_⟩, fun q p e => ⟨hKl q p e, (k0 q (hKl q p e)).trans (KK_c g e).2⟩, hXl⟩, inv, I_TZ, rfl, I_WP, by rw [nW4]; omega, fun q p e => (KK_c g e).1, by rw [nW5]; omega, ?_, rfl⟩
  · rcases KK_some e with ⟨c1, c2⟩ | ⟨c1, c2, c3, c4⟩
    · rw [(Prod.mk.inj c2).1, if_pos rfl, c1]
    · have c1 : 1 ≤ t := c1
      rw [if_neg (by omega)]
      exact c4.symm
  · have := g.2.2.2.2.2.1 t r a1 a6 hr
    exact ⟨KK_D g a1 a6 hr, this.1, by have := lt_of this.2; omega⟩
  · have := g.2.2.2.2.1 t a1 a6
    exact ⟨KK_X g a1 a6, this.1, this.2.1, (k0 _ (hXl t a1 a6)).trans this.2.2.2⟩
  · rw [bg_x]
    rfl
end HEAP
