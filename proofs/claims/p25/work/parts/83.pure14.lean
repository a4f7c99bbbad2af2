/-! PURE: what the law asks of rows. -/
section PURE14
variable {Q A A1 A' Z Z' : Mem} {M M' : Mm} {n fb : Nat → Nat} {p k b c q f j B m : Nat} {v w i x y len : Int32}
theorem pn_0 (hI : INV Q A M n fb) (hp : p < n 2) : pnL Q A (nI p) 0 = M 2 p 0 ∧ pnL Q A (nI p) 1 = M 2 p 1 ∧ pnL Q A (nI p) 2 = M 2 p 2 ∧ pnL Q A (nI p) 3 = M 2 p 3 ∧ pnL Q A (nI p) 4 = sLi M p := by
  have n2 := hI.1.1.2.1.2.1
  obtain ⟨a1, a2, a3⟩ := hI.1.2.1.2.1 p hp
  refine ⟨?_, ?_, ?_, ?_, ?_⟩
  · show ca 40 (Q 4) (nI p) = _
    rw [ca_n (by omega) (by decide)]
    exact (hI.1.1.2.2.2.1 p hp).1
  · show ca 40 (A 1) (nI p) = _
    rw [ca_n (by omega) (by decide)]
    exact a1
  · show ca 40 (A 2) (nI p) = _
    rw [ca_n (by omega) (by decide)]
    exact a2
  · show (if whL Q A (nI p) = false then (1 : Int32) else 0) = _
    rw [whL_k hI.1.1 hI.1.2.1 hp]
    rcases hI.1.2.2.2.1 p hp with h | ⟨h, -⟩
    · rw [h]; rfl
    · rw [h]; rfl
  · show liL A (nI p) (nI p + 1) = _
    have e : nI p + 1 = nI (p + 1) := nI_add p 1
    rw [e, liL_k hI.1.1 hI.1.2.1 hI.1.2.2.2.2.1 hI.1.2.2.2.2.2.1 (show p ≤ p + 1 by omega) hp, Nat.add_sub_cancel_left]
    exact Int32.zero_add _
/-- light by dirt -/
theorem li_law (hI : INV Q A M n fb) (hp : p < n 2) : sLi M p = if M 2 p 1 ≤ 100 then 100 - M 2 p 1 else 0 := by
  unfold sLi
  rcases hI.1.2.2.2.1 p hp with h | ⟨h, h1, -⟩
  · rw [if_neg (show ¬ M 2 p 3 = 1 by rw [h]; decide)]
  · rw [if_pos h, h1]
    rfl
/-- thickness -/
theorem by_1 (hI : INV Q A M n fb) (hp : p < n 2) : byL Q A (M 2 p 0) 1 = M 1 (M 2 p 0).toNatClampNeg 1 ∧ ∃ b, M 2 p 0 = nI b ∧ b < n 1 := by
  obtain ⟨e4, b1, hb1, e0, -⟩ := hI.1.1.2.2.2.1 p hp
  have n1 := hI.1.1.2.1.1
  refine ⟨?_, b1, e0, hb1⟩
  show ca 5 (Q 2) (M 2 p 0) = _
  rw [e0, ca_n (by omega) (by decide), nI_clamp (by omega)]
  exact (hI.1.1.2.2.1.2.2 b1 hb1).2.1
theorem bad_all {f : Nat → Unit → Unit ⊕ Unit} : ∀ m k, bad (itx f k m ()) = true → ∀ j, k ≤ j → j < k + m → f j () = .inr ()
  | 0, _, _, _, _, _ => by omega
  | m + 1, k, h, j, h1, h2 => by
    cases e : f k () with
    | inl r => rw [itx_l e] at h; cases h
    | inr s =>
      rw [itx_r e] at h
      by_cases c : j = k
      · subst c; rw [e]
      · exact bad_all m (k + 1) h j (by omega) (by omega)
/-- no cradle at a pane that birds may take -/
theorem fr_ca (hI : INV Q A M n fb) (h3 : M 0 0 3 = -1) (hp : p < n 2) (h : frL Q A (nI p) = true) : caL Q A (nI p) = 0 := by
  have n2 := hI.1.1.2.1.2.1
  have n4 := hI.1.1.2.1.2.2.2.2.1
  have q3 := hI.1.1.1.2.2.2.1
  unfold frL at h
  split at h
  · cases h
  rw [q3, itxI_0 (by omega)] at h
  have all := bad_all _ _ h
  unfold caL
  rw [q3, itI_0 (by omega)]
  refine itr_I (I := fun s : Int32 => s = 0) (m := n 4) (fun k s hk hs => ?_) (n 4) 0 0 (by omega) rfl
  have ha : frS Q A (nI p) (nI k) = Sum.inr () := all k (Nat.zero_le _) (by omega)
  have hx := hI.1.2.2.2.2.2.2.1.2.2.1 k hk
  have hA4 : ca 3 (A 4) (nI k) = M 4 k 0 := by
    rw [ca_n (by omega) (by decide)]
    exact (hI.1.2.1.2.2.1 k hk).1
  unfold frS at ha
  have h1 : (-1 : Int32).toInt = -1 := by decide
  have hne : ¬ nI k = A 0 3 := by
    rw [hI.1.2.1.1.2.2, h3]
    intro e
    have := congrArg Int32.toInt e
    rw [nI_toInt (by omega), h1] at this
    omega
  rw [if_neg hne] at ha
  unfold caS
  split
  · exact hs
  · next c =>
    have c := Decidable.not_not.mp c
    rw [c] at ha
    unfold diL at ha
    rw [if_pos (Int32.le_refl _), Int32.sub_self, if_neg (by decide)] at ha
    cases ha
theorem itr_app {S : Type} {g : Nat → S → S} : ∀ a m k (s : S), itr g k (a + m) s = itr g (k + a) m (itr g k a s)
  | 0, m, k, s => by rw [Nat.zero_add, Nat.add_zero]; rfl
  | a + 1, m, k, s => by
    rw [show a + 1 + m = a + m + 1 by omega]
    show itr g (k + 1) (a + m) (g k s) = _
    rw [itr_app a m (k + 1) (g k s), show k + 1 + a = k + (a + 1) by omega]
    rfl
theorem itr_off {g : Nat → Int32} : ∀ m k (s : Int32), itr (fun k s => s + g k) k m s = s + itr (fun k s => s + g k) k m 0
  | 0, k, s => (Int32.add_zero s).symm
  | m + 1, k, s => by
    show itr _ (k + 1) m (s + g k) = s + itr _ (k + 1) m (0 + g k)
    rw [itr_off m (k + 1) (s + g k), itr_off m (k + 1) (0 + g k), Int32.zero_add, Int32.add_assoc]
theorem lb_k (hI : INV Q A M n fb) (hb : b < n 1) : lbL Q A (nI b) = itr (fun k s => s + sLi M k) (fb b) (fb (b + 1) - fb b) 0 := by
  have n1 := hI.1.1.2.1.1
  obtain ⟨e1, -, e3, e4, e5, e6⟩ := hI.1.1.2.2.1.2.2 b hb
  unfold lbL
  rw [ca_n (by omega) (by decide), ca_n (by omega) (by decide), e3, e1, e4, nI_add, show fb b + (fb (b + 1) - fb b) = fb (b + 1) by omega]
  exact liL_k hI.1.1 hI.1.2.1 hI.1.2.2.2.2.1 hI.1.2.2.2.2.2.1 e5 e6
/-- the bays' light together -/
theorem lb_sum (hI : INV Q A M n fb) : itr (fun b s => s + lbL Q A (nI b)) 0 (n 1) 0 = sLf M n (-1) := by
  have hf := hI.1.1.2.2.1
  have key : ∀ j, j ≤ n 1 → itr (fun b s => s + lbL Q A (nI b)) 0 j 0 = itr (fun k s => s + sLi M k) 0 (fb j) 0 := by
    intro j
    induction j with
    | zero => intro _; rw [hf.1]; rfl
    | succ j ih =>
      intro hj
      obtain ⟨-, -, -, -, e5, -⟩ := hf.2.2 j hj
      have e : fb (j + 1) = fb j + (fb (j + 1) - fb j) := by omega
      rw [itr_snoc, ih (by omega), Nat.zero_add, lb_k hI hj]
      generalize fb (j + 1) - fb j = y at e ⊢
      rw [e, itr_app, Nat.zero_add]
      exact (itr_off y (fb j) _).symm
  rw [key (n 1) (Nat.le_refl _), hf.2.1]
  unfold sLf
  exact itr_eq (m := n 2) (fun k s _ => by unfold sLo; rw [if_pos (by decide)]) (by omega)
/-- dark -/
theorem da_law (hb : b < 5) : (b01 (daL Q A (nI b)) = 1) = (lbL Q A (nI b) < 40 * byL Q A (nI b) 0) := by
  unfold daL
  show _ = (lbL Q A (nI b) < 40 * ca 5 (Q 1) (nI b))
  split
  · next h => exact propext ⟨fun e => absurd e (by decide), fun e => absurd h (Int32.not_le.mpr e)⟩
  · next h => exact propext ⟨fun _ => Int32.not_le.mp h, fun _ => rfl⟩
end PURE14
