/-! PURE: what soot, birds and cradles leave alone. -/
/-- panes but for their dirt; bays -/
def KP (M M' : Mm) : Prop := (∀ p j, j ≠ 1 → M' 2 p j = M 2 p j) ∧ M' 1 = M 1
section PURE17
variable {Q A A1 A' Z Z' : Mem} {M M' M3 : Mm} {n fb : Nat → Nat} {p k b c q f j B m a v : Nat} {w i x y len v' : Int32}
theorem KP_r : KP M M := ⟨fun _ _ _ => rfl, rfl⟩
theorem KP_t (h : KP M M3) (h' : KP M3 M') : KP M M' := ⟨fun p j hj => (h'.1 p j hj).trans (h.1 p j hj), h'.2.trans h.2⟩
theorem KP_21 : KP M (um M 2 p 1 v') := ⟨fun _ _ hj => um_c hj, um_t (by decide)⟩
theorem KP_o {t : Nat} (h1 : 1 ≠ t) (h2 : 2 ≠ t) : KP M (um M t p j v') := ⟨fun p' j' _ => congrFun (congrFun (um_t h2) p') j', um_t h1⟩
theorem KP_1 : KP M (sP1 M n) ∧ (sP1 M n) 4 = M 4 ∧ (sP1 M n) 5 = M 5 ∧ (sP1 M n) 0 = M 0 := by
  unfold sP1
  refine itr_I (I := fun a : Mm => KP M a ∧ a 4 = M 4 ∧ a 5 = M 5 ∧ a 0 = M 0) (m := n 3) (fun k a _ h => ?_) (n 3) 0 M (by omega) ⟨KP_r, rfl, rfl, rfl⟩
  unfold sC2
  split
  · refine itr_I (I := fun a : Mm => KP M a ∧ a 4 = M 4 ∧ a 5 = M 5 ∧ a 0 = M 0) (m := n 2) (fun p a _ h => ?_) (n 2) 0 a (by omega) h
    unfold sC1
    split
    · exact h
    split
    · exact h
    split
    · exact h
    · exact ⟨KP_t h.1 KP_21, (um_t (by decide)).trans h.2.1, (um_t (by decide)).trans h.2.2.1, (um_t (by decide)).trans h.2.2.2⟩
  · exact h
theorem KP_fl : KP M (sFl M n q) ∧ (sFl M n q) 4 = M 4 ∧ (sFl M n q) 2 = M 2 ∧ (sFl M n q) 0 = M 0 := by
  unfold sFl
  split
  · exact ⟨KP_r, rfl, rfl, rfl⟩
  · split
    · exact ⟨KP_o (by decide) (by decide), um_t (by decide), um_t (by decide), um_t (by decide)⟩
    · exact ⟨KP_t (KP_o (by decide) (by decide)) (KP_o (by decide) (by decide)), (um_t (by decide)).trans (um_t (by decide)), (um_t (by decide)).trans (um_t (by decide)), (um_t (by decide)).trans (um_t (by decide))⟩
theorem KP_f1 : KP M (sF1 n q M) ∧ (sF1 n q M) 4 = M 4 ∧ (sF1 n q M) 0 = M 0 := by
  have h := KP_fl (M := M) (n := n) (q := q)
  unfold sF1
  split
  · exact ⟨h.1, h.2.1, h.2.2.2⟩
  · exact ⟨KP_t h.1 KP_21, (um_t (by decide)).trans h.2.1, (um_t (by decide)).trans h.2.2.2⟩
theorem KP_2 : KP M (sP2 M n) ∧ (sP2 M n) 4 = M 4 ∧ (sP2 M n) 0 = M 0 := by
  unfold sP2
  refine itr_I (I := fun a : Mm => KP M a ∧ a 4 = M 4 ∧ a 0 = M 0) (m := n 5) (fun k a _ h => ?_) (n 5) 0 M (by omega) ⟨KP_r, rfl, rfl⟩
  have h1 := KP_f1 (M := a) (n := n) (q := k)
  exact ⟨KP_t h.1 h1.1, h1.2.1.trans h.2.1, h1.2.2.trans h.2.2⟩
/-- all but panes' dirt and the row of this cradle -/
def KC (c : Nat) (M M' : Mm) : Prop := KP M M' ∧ (∀ c', c' ≠ c → M' 4 c' = M 4 c') ∧ M' 5 = M 5 ∧ M' 0 = M 0
theorem KC_r : KC c M M := ⟨KP_r, fun _ _ => rfl, rfl, rfl⟩
theorem KC_t (h : KC c M M3) (h' : KC c M3 M') : KC c M M' := ⟨KP_t h.1 h'.1, fun c' hc => (h'.2.1 c' hc).trans (h.2.1 c' hc), h'.2.2.1.trans h.2.2.1, h'.2.2.2.trans h.2.2.2⟩
theorem KC_21 : KC c M (um M 2 p 1 v') := ⟨KP_21, fun c' _ => congrFun (um_t (by decide)) c', um_t (by decide), um_t (by decide)⟩
theorem KC_4 : KC c M (um M 4 c j v') := ⟨KP_o (by decide) (by decide), fun c' hc => by
  funext j'
  rw [um_x, if_neg (fun q => hc q.1)], um_t (by decide), um_t (by decide)⟩
theorem KC_wd : KC c M (sWd M c p) := by
  unfold sWd
  split
  · exact KC_r
  split
  · exact KC_r
  split
  · exact KC_r
  · unfold sWc sWb sWa
    exact KC_t KC_21 (KC_t KC_4 KC_4)
theorem KC_we : KC c M (sWe M c) := by
  unfold sWe
  split
  · exact KC_4
  · exact KC_r
theorem KC_mc : KC c M (sMc n c M) := by
  unfold sMc
  split
  · exact KC_r
  · unfold sMx
    exact KC_t (KC_t (show KC c M (sMw M n c) from KC_4) KC_we) KC_wd
theorem KP_3 : KP M (sP3 M n) ∧ (sP3 M n) 5 = M 5 ∧ (sP3 M n) 0 = M 0 := by
  unfold sP3
  refine itr_I (I := fun a : Mm => KP M a ∧ a 5 = M 5 ∧ a 0 = M 0) (m := n 4) (fun k a _ h => ?_) (n 4) 0 M (by omega) ⟨KP_r, rfl, rfl⟩
  have h1 := KC_mc (M := a) (n := n) (c := k)
  exact ⟨KP_t h.1 h1.1, h1.2.2.1.trans h.2.1, h1.2.2.2.trans h.2.2⟩
theorem P4_k : (sP4 M n).2 4 = M 4 ∧ (sP4 M n).2 5 = M 5 ∧ (sP4 M n).2 0 = M 0 := by
  unfold sP4
  refine itr_I (I := fun a : Int32 × Mm => a.2 4 = M 4 ∧ a.2 5 = M 5 ∧ a.2 0 = M 0) (m := n 2) (fun k a _ h => ?_) (n 2) 0 (0, M) (by omega) ⟨rfl, rfl, rfl⟩
  unfold sQs
  have ha : (sQa a.2 k) 4 = M 4 ∧ (sQa a.2 k) 5 = M 5 ∧ (sQa a.2 k) 0 = M 0 := by
    unfold sQa
    exact ⟨(um_t (by decide)).trans h.1, (um_t (by decide)).trans h.2.1, (um_t (by decide)).trans h.2.2⟩
  split
  · exact h
  split
  · refine ⟨?_, ?_, ?_⟩
    · show sQb (sQa a.2 k) k 4 = _
      unfold sQb
      rw [um_t (by decide), um_t (by decide), um_t (by decide)]
      exact ha.1
    · show sQb (sQa a.2 k) k 5 = _
      unfold sQb
      rw [um_t (by decide), um_t (by decide), um_t (by decide)]
      exact ha.2.1
    · show sQb (sQa a.2 k) k 0 = _
      unfold sQb
      rw [um_t (by decide), um_t (by decide), um_t (by decide)]
      exact ha.2.2
  · exact ha
theorem P5_k {t : Nat} (ht : t ≠ 0) {a : Int32 × Mm} : sP5 a t = a.2 t := by
  unfold sP5
  rw [um_t ht, um_t ht]
/-- an hour and the panes -/
theorem hr_panes (hI : INV Q A M n fb) : (sPa M n).1 = itr (fun p s => s + if M 2 p 3 = 0 ∧ sPs M n 2 p 3 = 1 then 1 else 0) 0 (n 2) 0 ∧ ∀ p, p < n 2 → (M 2 p 3 = 1 → sPs M n 2 p 3 = 1) ∧ (sPs M n 2 p 3 = 1 ∨ (sPs M n 2 p 3 = 0 ∧ sPs M n 2 p 2 = M 2 p 2 + sPs M n 2 p 1 / 10)) := by
  have hk : KP M (sP3 (sP2 (sP1 M n) n) n) := KP_t KP_1.1 (KP_t KP_2.1 KP_3.1)
  have hG : ∀ p, p < n 2 → (sP3 (sP2 (sP1 M n) n) n) 2 p 3 = 0 ∨ (sP3 (sP2 (sP1 M n) n) n) 2 p 3 = 1 := fun p hp => by
    rw [hk.1 p 3 (by decide)]
    exact (hI.1.2.2.2.1 p hp).imp id (fun h => h.1)
  have e2 : sPs M n 2 = (sP4 (sP3 (sP2 (sP1 M n) n) n) n).2 2 := P5_k (by decide)
  obtain ⟨h1, h2⟩ := p4_eq hG
  have hb : ∀ p, p < n 2 → (nwB (sP3 (sP2 (sP1 M n) n) n) p = true) = (M 2 p 3 = 0 ∧ sPs M n 2 p 3 = 1) := fun p hp => by
    obtain ⟨a1, a2, a3⟩ := h2 p hp
    rw [e2]
    refine propext ⟨fun h => ⟨?_, a2 h⟩, fun h => ?_⟩
    · unfold nwB at h
      rw [Bool.and_eq_true] at h
      rw [← hk.1 p 3 (by decide)]
      exact of_decide_eq_true h.1
    · refine Classical.byContradiction fun hn => ?_
      have := (a3 (by rw [hk.1 p 3 (by decide)]; exact h.1) hn).1
      rw [h.2] at this
      exact absurd this (by decide)
  refine ⟨?_, fun p hp => ?_⟩
  · show (sP4 (sP3 (sP2 (sP1 M n) n) n) n).1 = _
    rw [h1]
    exact itr_eq (m := n 2) (fun p s hp => by simp only [hb p hp]) (by omega)
  · obtain ⟨a1, a2, a3⟩ := h2 p hp
    rw [e2]
    rw [hk.1 p 3 (by decide), hk.1 p 2 (by decide)] at *
    refine ⟨a1, ?_⟩
    by_cases c : nwB (sP3 (sP2 (sP1 M n) n) n) p = true
    · exact Or.inl (a2 c)
    · rcases hI.1.2.2.2.1 p hp with h | ⟨h, -⟩
      · exact Or.inr (a3 h c)
      · exact Or.inl (a1 h)
end PURE17
