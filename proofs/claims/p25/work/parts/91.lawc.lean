/-! THE LAW: what the class answers (written by gen91.py). -/
/-- all that is known on the law's way -/
def HI (H : ix_H) (b tp rd pl t t2 tb : Nat) (lea len : Int32) (Q A Z : Mem) (s : Nat) (K : Nat → Option (Nat × Nat)) (X : Nat → Nat) (D : Nat → Nat → Nat) (n : Nat → Nat) (M : Mm) (fb : Nat → Nat) : Prop :=
  HW H b tp rd pl t t2 tb lea len Q A Z s K X D n M ∧ INV Q A M n fb ∧ TZ Z ∧ M 0 0 3 = -1 ∧ WP M n ∧ 0 < n 4 ∧ (∀ o p, K o = some p → 98 ≤ o) ∧ 0 < n 5 ∧ A 0 2 = M 0 0 2 ∧ len = 0
theorem inL_n {p m : Nat} (h : p < m) (hm : m < 2 ^ 31) : inL (nI p) (nI m) = false := by
  unfold inL
  rw [if_neg (nI_pos (by omega)), if_pos (nI_lt h hm)]
section LAWC
variable {fv : Value} {d : Nat} {H : ix_H} {b tp rd pl t t2 tb : Nat} {lea len : Int32} {Q A A' Z Z' : Mem} {s : Nat} {K : Nat → Option (Nat × Nat)} {X : Nat → Nat} {D : Nat → Nat → Nat} {n fb : Nat → Nat} {M M' : Mm} {p c f q m k v : Nat} {w i : Int32}
theorem HI_is (g : HI H b tp rd pl t t2 tb lea len Q A Z s K X D n M fb) : ix_is (ixP fv) H b "SkylightWash" = true := is_of g.1.1.1.2.2.2.2.2.1 (by decide +kernel)
theorem HI_isS (g : HI H b tp rd pl t t2 tb lea len Q A Z s K X D n M fb) : ix_is (ixP fv) H s "SkylightWashLaw$Sim" = true := by
  have h := isS (fv := fv) (M := M) g.1.2.2.2.2.1
  rw [HW_S g.1] at h
  exact h
theorem HI_push (g : HI H b tp rd pl t t2 tb lea len Q A Z s K X D n M fb) {l : List ix_C} : HI (H ++ l) b tp rd pl t t2 tb lea len Q A Z s K X D n M fb := ⟨HW_push g.1, g.2⟩
theorem HI_set (g : HI H b tp rd pl t t2 tb lea len Q A Z s K X D n M fb) {o : Nat} {x : ix_C} (h : t2 + 10 ≤ o) : HI (H.set o x) b tp rd pl t t2 tb lea len Q A Z s K X D n M fb := ⟨HW_set g.1 h, g.2⟩
theorem HI_n (g : HI H b tp rd pl t t2 tb lea len Q A Z s K X D n M fb) : n 1 ≤ 4 ∧ n 2 ≤ 32 ∧ 0 < n 2 ∧ n 3 ≤ 4 ∧ n 4 ≤ 3 ∧ n 5 ≤ 3 ∧ n 6 ≤ 7 := g.2.1.1.1.2.1
theorem HI_Q1 (g : HI H b tp rd pl t t2 tb lea len Q A Z s K X D n M fb) : 0 ≤ Q 0 1 := by
  rw [g.2.1.1.1.1.2.1]
  exact nI_pos' (by have := (HI_n g).2.1; omega)
theorem HI_q (g : HI H b tp rd pl t t2 tb lea len Q A Z s K X D n M fb) (h : eqA A A') : HI (wAr H pl t Q A') b tp rd pl t t2 tb lea len Q A' Z s K X D n M fb := ⟨HW_putA g.1, INV_eq h g.2.1, g.2.2.1, g.2.2.2.1, g.2.2.2.2.1, g.2.2.2.2.2.1, g.2.2.2.2.2.2.1, g.2.2.2.2.2.2.2.1, (h.2 2 (by decide)).trans g.2.2.2.2.2.2.2.2.1, g.2.2.2.2.2.2.2.2.2⟩
theorem hw94_1 (g : HI H b tp rd pl t t2 tb lea len Q A Z s K X D n M fb) : xe (ixP fv) (d + 4) 94 0 [some (.ref b), some (.int 1), none] [] H = some (.inl (some (.int (M 0 0 1))), H) := by
  have h := m94_1 (fv := fv) (d := d) (Q := Q) (A := A) g.1.1.1
  have e : ctL Q A len 1 = M 0 0 1 := (show ctL Q A len 1 = A 0 1 by simp only [ctL]).trans (g.2.1.1.2.1.1.2.1)
  rw [HW_A g.1, e] at h
  exact h
theorem hw94_2 (g : HI H b tp rd pl t t2 tb lea len Q A Z s K X D n M fb) : xe (ixP fv) (d + 4) 94 0 [some (.ref b), some (.int 2), none] [] H = some (.inl (some (.int (nI (n 1)))), H) := by
  have h := m94_2 (fv := fv) (d := d) (Q := Q) (A := A) g.1.1.1
  have e : ctL Q A len 2 = nI (n 1) := (show ctL Q A len 2 = Q 0 0 by simp only [ctL]).trans (g.2.1.1.1.1.1)
  rw [HW_A g.1, e] at h
  exact h
theorem hw94_3 (g : HI H b tp rd pl t t2 tb lea len Q A Z s K X D n M fb) : xe (ixP fv) (d + 4) 94 0 [some (.ref b), some (.int 3), none] [] H = some (.inl (some (.int (nI (n 2)))), H) := by
  have h := m94_3 (fv := fv) (d := d) (Q := Q) (A := A) g.1.1.1
  have e : ctL Q A len 3 = nI (n 2) := (show ctL Q A len 3 = Q 0 1 by simp only [ctL]).trans (g.2.1.1.1.1.2.1)
  rw [HW_A g.1, e] at h
  exact h
theorem hw94_5 (g : HI H b tp rd pl t t2 tb lea len Q A Z s K X D n M fb) : xe (ixP fv) (d + 4) 94 0 [some (.ref b), some (.int 5), none] [] H = some (.inl (some (.int (nI (n 4)))), H) := by
  have h := m94_5 (fv := fv) (d := d) (Q := Q) (A := A) g.1.1.1
  have e : ctL Q A len 5 = nI (n 4) := (show ctL Q A len 5 = Q 0 3 by simp only [ctL]).trans (g.2.1.1.1.1.2.2.2.1)
  rw [HW_A g.1, e] at h
  exact h
theorem hw94_6 (g : HI H b tp rd pl t t2 tb lea len Q A Z s K X D n M fb) : xe (ixP fv) (d + 4) 94 0 [some (.ref b), some (.int 6), none] [] H = some (.inl (some (.int (nI (n 5)))), H) := by
  have h := m94_6 (fv := fv) (d := d) (Q := Q) (A := A) g.1.1.1
  have e : ctL Q A len 6 = nI (n 5) := (show ctL Q A len 6 = Q 0 4 by simp only [ctL]).trans (g.2.1.1.1.1.2.2.2.2.1)
  rw [HW_A g.1, e] at h
  exact h
theorem hw94_8 (g : HI H b tp rd pl t t2 tb lea len Q A Z s K X D n M fb) : xe (ixP fv) (d + 4) 94 0 [some (.ref b), some (.int 8), none] [] H = some (.inl (some (.int (sLf M n (-1)))), H) := by
  have h := m94_8 (fv := fv) (d := d) (Q := Q) (A := A) g.1.1.1
  have e : ctL Q A len 8 = sLf M n (-1) := (show ctL Q A len 8 = liL A 0 (Q 0 1) by simp only [ctL]).trans (INV_li g.2.1)
  rw [HW_A g.1, e] at h
  exact h
theorem hw94_9 (g : HI H b tp rd pl t t2 tb lea len Q A Z s K X D n M fb) : xe (ixP fv) (d + 4) 94 0 [some (.ref b), some (.int 9), none] [] H = some (.inl (some (.int (sDi M n))), H) := by
  have h := m94_9 (fv := fv) (d := d) (Q := Q) (A := A) g.1.1.1
  have e : ctL Q A len 9 = sDi M n := (show ctL Q A len 9 = adL Q A by simp only [ctL]).trans (INV_ad g.2.1)
  rw [HW_A g.1, e] at h
  exact h
theorem hw94_10 (g : HI H b tp rd pl t t2 tb lea len Q A Z s K X D n M fb) : xe (ixP fv) (d + 4) 94 0 [some (.ref b), some (.int 10), none] [] H = some (.inl (some (.int (sGn M n))), H) := by
  have h := m94_10 (fv := fv) (d := d) (Q := Q) (A := A) g.1.1.1
  have e : ctL Q A len 10 = sGn M n := (show ctL Q A len 10 = Q 0 1 - plL Q A by simp only [ctL]).trans ((pl_eq g.2.1).1)
  rw [HW_A g.1, e] at h
  exact h
theorem hw94_11 (g : HI H b tp rd pl t t2 tb lea len Q A Z s K X D n M fb) : xe (ixP fv) (d + 4) 94 0 [some (.ref b), some (.int 11), none] [] H = some (.inl (some (.int (A 0 2))), H) := by
  have h := m94_11 (fv := fv) (d := d) (Q := Q) (A := A) g.1.1.1
  have e : ctL Q A len 11 = A 0 2 := (show ctL Q A len 11 = A 0 2 by simp only [ctL]).trans (rfl)
  rw [HW_A g.1, e] at h
  exact h
theorem hw94_12 (g : HI H b tp rd pl t t2 tb lea len Q A Z s K X D n M fb) : xe (ixP fv) (d + 4) 94 0 [some (.ref b), some (.int 12), none] [] H = some (.inl (some (.int (sDk M n))), H) := by
  have h := m94_12 (fv := fv) (d := d) (Q := Q) (A := A) g.1.1.1
  have e : ctL Q A len 12 = sDk M n := (show ctL Q A len 12 = dbL Q A by simp only [ctL]).trans (INV_db g.2.1)
  rw [HW_A g.1, e] at h
  exact h
theorem hw95_0 (g : HI H b tp rd pl t t2 tb lea len Q A Z s K X D n M fb) (hp : p < n 2) : xe (ixP fv) (d + 3) 95 0 [some (.ref b), some (.int (nI p)), some (.int 0)] [] H = some (.inl (some (.int (M 2 p 0))), H) := by
  have h := m95_0 (fv := fv) (d := d) (Q := Q) (A := A) (p := nI p) g.1.1.1 (by rw [g.2.1.1.1.1.2.1]; exact inL_n hp (by have := (HI_n g).2.1; omega))
  have e : pnL Q A (nI p) 0 = M 2 p 0 := (pn_0 g.2.1 hp).1
  rw [HW_A g.1, e] at h
  exact h
theorem hw95_1 (g : HI H b tp rd pl t t2 tb lea len Q A Z s K X D n M fb) (hp : p < n 2) : xe (ixP fv) (d + 3) 95 0 [some (.ref b), some (.int (nI p)), some (.int 1)] [] H = some (.inl (some (.int (M 2 p 1))), H) := by
  have h := m95_1 (fv := fv) (d := d) (Q := Q) (A := A) (p := nI p) g.1.1.1 (by rw [g.2.1.1.1.1.2.1]; exact inL_n hp (by have := (HI_n g).2.1; omega))
  have e : pnL Q A (nI p) 1 = M 2 p 1 := (pn_0 g.2.1 hp).2.1
  rw [HW_A g.1, e] at h
  exact h
theorem hw95_2 (g : HI H b tp rd pl t t2 tb lea len Q A Z s K X D n M fb) (hp : p < n 2) : xe (ixP fv) (d + 3) 95 0 [some (.ref b), some (.int (nI p)), some (.int 2)] [] H = some (.inl (some (.int (M 2 p 2))), H) := by
  have h := m95_2 (fv := fv) (d := d) (Q := Q) (A := A) (p := nI p) g.1.1.1 (by rw [g.2.1.1.1.1.2.1]; exact inL_n hp (by have := (HI_n g).2.1; omega))
  have e : pnL Q A (nI p) 2 = M 2 p 2 := (pn_0 g.2.1 hp).2.2.1
  rw [HW_A g.1, e] at h
  exact h
theorem hw95_3 (g : HI H b tp rd pl t t2 tb lea len Q A Z s K X D n M fb) (hp : p < n 2) : xe (ixP fv) (d + 3) 95 0 [some (.ref b), some (.int (nI p)), some (.int 3)] [] H = some (.inl (some (.int (M 2 p 3))), H) := by
  have h := m95_3 (fv := fv) (d := d) (Q := Q) (A := A) (p := nI p) g.1.1.1 (by rw [g.2.1.1.1.1.2.1]; exact inL_n hp (by have := (HI_n g).2.1; omega))
  have e : pnL Q A (nI p) 3 = M 2 p 3 := (pn_0 g.2.1 hp).2.2.2.1
  rw [HW_A g.1, e] at h
  exact h
theorem hw95_4 (g : HI H b tp rd pl t t2 tb lea len Q A Z s K X D n M fb) (hp : p < n 2) : xe (ixP fv) (d + 3) 95 0 [some (.ref b), some (.int (nI p)), some (.int 4)] [] H = some (.inl (some (.int (sLi M p))), H) := by
  have h := m95_4 (fv := fv) (d := d) (Q := Q) (A := A) (p := nI p) g.1.1.1 (by rw [g.2.1.1.1.1.2.1]; exact inL_n hp (by have := (HI_n g).2.1; omega))
  have e : pnL Q A (nI p) 4 = sLi M p := (pn_0 g.2.1 hp).2.2.2.2
  rw [HW_A g.1, e] at h
  exact h
theorem hw95_5 (g : HI H b tp rd pl t t2 tb lea len Q A Z s K X D n M fb) (hp : p < n 2) : xe (ixP fv) (d + 3) 95 0 [some (.ref b), some (.int (nI p)), some (.int 5)] [] H = some (.inl (some (.int (caL Q A (nI p)))), H) := by
  have h := m95_5 (fv := fv) (d := d) (Q := Q) (A := A) (p := nI p) g.1.1.1 (by rw [g.2.1.1.1.1.2.1]; exact inL_n hp (by have := (HI_n g).2.1; omega))
  have e : pnL Q A (nI p) 5 = caL Q A (nI p) := (by simp only [pnL])
  rw [HW_A g.1, e] at h
  exact h
theorem hw95_6 (g : HI H b tp rd pl t t2 tb lea len Q A Z s K X D n M fb) (hp : p < n 2) : xe (ixP fv) (d + 3) 95 0 [some (.ref b), some (.int (nI p)), some (.int 6)] [] H = some (.inl (some (.int (b01 (sFr M n (nI p))))), H) := by
  have h := m95_6 (fv := fv) (d := d) (Q := Q) (A := A) (p := nI p) g.1.1.1 (by rw [g.2.1.1.1.1.2.1]; exact inL_n hp (by have := (HI_n g).2.1; omega))
  have e : pnL Q A (nI p) 6 = b01 (sFr M n (nI p)) := pn_6 g.2.1 hp
  rw [HW_A g.1, e] at h
  exact h
theorem hw96_0 (g : HI H b tp rd pl t t2 tb lea len Q A Z s K X D n M fb) (hp : p < n 1) : xe (ixP fv) (d + 3) 96 0 [some (.ref b), some (.int (nI p)), some (.int 0)] [] H = some (.inl (some (.int (byL Q A (nI p) 0))), H) := by
  have h := m96_0 (fv := fv) (d := d) (Q := Q) (A := A) (p := nI p) g.1.1.1 (by rw [g.2.1.1.1.1.1]; exact inL_n hp (by have := (HI_n g).1; omega))
  have e : byL Q A (nI p) 0 = byL Q A (nI p) 0 := rfl
  rw [HW_A g.1, e] at h
  exact h
theorem hw96_1 (g : HI H b tp rd pl t t2 tb lea len Q A Z s K X D n M fb) (hp : p < n 1) : xe (ixP fv) (d + 3) 96 0 [some (.ref b), some (.int (nI p)), some (.int 1)] [] H = some (.inl (some (.int (byL Q A (nI p) 1))), H) := by
  have h := m96_1 (fv := fv) (d := d) (Q := Q) (A := A) (p := nI p) g.1.1.1 (by rw [g.2.1.1.1.1.1]; exact inL_n hp (by have := (HI_n g).1; omega))
  have e : byL Q A (nI p) 1 = byL Q A (nI p) 1 := rfl
  rw [HW_A g.1, e] at h
  exact h
theorem hw96_3 (g : HI H b tp rd pl t t2 tb lea len Q A Z s K X D n M fb) (hp : p < n 1) : xe (ixP fv) (d + 3) 96 0 [some (.ref b), some (.int (nI p)), some (.int 3)] [] H = some (.inl (some (.int (lbL Q A (nI p)))), H) := by
  have h := m96_3 (fv := fv) (d := d) (Q := Q) (A := A) (p := nI p) g.1.1.1 (by rw [g.2.1.1.1.1.1]; exact inL_n hp (by have := (HI_n g).1; omega))
  have e : byL Q A (nI p) 3 = lbL Q A (nI p) := (by simp only [byL])
  rw [HW_A g.1, e] at h
  exact h
theorem hw96_4 (g : HI H b tp rd pl t t2 tb lea len Q A Z s K X D n M fb) (hp : p < n 1) : xe (ixP fv) (d + 3) 96 0 [some (.ref b), some (.int (nI p)), some (.int 4)] [] H = some (.inl (some (.int (b01 (daL Q A (nI p))))), H) := by
  have h := m96_4 (fv := fv) (d := d) (Q := Q) (A := A) (p := nI p) g.1.1.1 (by rw [g.2.1.1.1.1.1]; exact inL_n hp (by have := (HI_n g).1; omega))
  have e : byL Q A (nI p) 4 = b01 (daL Q A (nI p)) := (by simp only [byL])
  rw [HW_A g.1, e] at h
  exact h
theorem hw97_0 (g : HI H b tp rd pl t t2 tb lea len Q A Z s K X D n M fb) (hc : c < n 4) : xe (ixP fv) (d + 5) 97 0 [some (.ref b), some (.int (nI c)), some (.int 0)] [] H = some (.inl (some (.int (M 4 c 0))), H) := by
  have h := m97_0 (fv := fv) (d := d) (Q := Q) (A := A) (p := nI c) g.1.1.1 (by rw [g.2.1.1.1.1.2.2.2.1]; exact inL_n hc (by have := (HI_n g).2.2.2.2.1; omega))
  have e : crL Q A (nI c) 0 = M 4 c 0 := (cr_row g.2.1 hc).2.2.2.1
  rw [HW_A g.1, e] at h
  exact h
theorem hw97_1 (g : HI H b tp rd pl t t2 tb lea len Q A Z s K X D n M fb) (hc : c < n 4) : xe (ixP fv) (d + 5) 97 0 [some (.ref b), some (.int (nI c)), some (.int 1)] [] H = some (.inl (some (.int (M 4 c 1))), H) := by
  have h := m97_1 (fv := fv) (d := d) (Q := Q) (A := A) (p := nI c) g.1.1.1 (by rw [g.2.1.1.1.1.2.2.2.1]; exact inL_n hc (by have := (HI_n g).2.2.2.2.1; omega))
  have e : crL Q A (nI c) 1 = M 4 c 1 := (cr_row g.2.1 hc).2.2.2.2.1
  rw [HW_A g.1, e] at h
  exact h
theorem hw97_2 (g : HI H b tp rd pl t t2 tb lea len Q A Z s K X D n M fb) (hc : c < n 4) : xe (ixP fv) (d + 5) 97 0 [some (.ref b), some (.int (nI c)), some (.int 2)] [] H = some (.inl (some (.int (M 4 c 2))), H) := by
  have h := m97_2 (fv := fv) (d := d) (Q := Q) (A := A) (p := nI c) g.1.1.1 (by rw [g.2.1.1.1.1.2.2.2.1]; exact inL_n hc (by have := (HI_n g).2.2.2.2.1; omega))
  have e : crL Q A (nI c) 2 = M 4 c 2 := (cr_row g.2.1 hc).2.2.2.2.2.1
  rw [HW_A g.1, e] at h
  exact h
theorem hw97_3 (g : HI H b tp rd pl t t2 tb lea len Q A Z s K X D n M fb) (hc : c < n 4) : xe (ixP fv) (d + 5) 97 0 [some (.ref b), some (.int (nI c)), some (.int 3)] [] H = some (.inl (some (.int (M 4 c 3))), H) := by
  have h := m97_3 (fv := fv) (d := d) (Q := Q) (A := A) (p := nI c) g.1.1.1 (by rw [g.2.1.1.1.1.2.2.2.1]; exact inL_n hc (by have := (HI_n g).2.2.2.2.1; omega))
  have e : crL Q A (nI c) 3 = M 4 c 3 := (cr_row g.2.1 hc).2.2.2.2.2.2.1
  rw [HW_A g.1, e] at h
  exact h
theorem hw97_5 (g : HI H b tp rd pl t t2 tb lea len Q A Z s K X D n M fb) (hc : c < n 4) : xe (ixP fv) (d + 5) 97 0 [some (.ref b), some (.int (nI c)), some (.int 5)] [] H = some (.inl (some (.int (M 4 c 4))), H) := by
  have h := m97_5 (fv := fv) (d := d) (Q := Q) (A := A) (p := nI c) g.1.1.1 (by rw [g.2.1.1.1.1.2.2.2.1]; exact inL_n hc (by have := (HI_n g).2.2.2.2.1; omega))
  have e : crL Q A (nI c) 5 = M 4 c 4 := (cr_row g.2.1 hc).2.2.2.2.2.2.2.1
  rw [HW_A g.1, e] at h
  exact h
theorem hw97_4 (g : HI H b tp rd pl t t2 tb lea len Q A Z s K X D n M fb) (hc : c < n 4) : ∃ A', xe (ixP fv) (d + 5) 97 0 [some (.ref b), some (.int (nI c)), some (.int 4)] [] H = some (.inl (some (.int (sGl M n c))), wAr H pl t Q A') ∧ eqA A A' := by
  have h := m97_4 (fv := fv) (d := d) (Q := Q) (A := A) (p := nI c) g.1.1.1 (by rw [g.2.1.1.1.1.2.2.2.1]; exact inL_n hc (by have := (HI_n g).2.2.2.2.1; omega))
  have e : crL Q A (nI c) 4 = sGl M n c := (cr_row g.2.1 hc).2.2.2.2.2.2.2.2
  rw [HW_A g.1, e] at h
  exact ⟨_, h, (go_eq g.2.1.1 hc).2⟩
theorem hw98_0 (g : HI H b tp rd pl t t2 tb lea len Q A Z s K X D n M fb) (hf : f < n 5) : xe (ixP fv) (d + 1) 98 0 [some (.ref b), some (.int (nI f)), some (.int 0)] [] H = some (.inl (some (.int (M 5 f 0))), H) := by
  have h := m98_0 (fv := fv) (d := d) (Q := Q) (A := A) (p := nI f) g.1.1.1 (by rw [g.2.1.1.1.1.2.2.2.2.1]; exact inL_n hf (by have := (HI_n g).2.2.2.2.2.1; omega))
  have e : fkL Q A (nI f) 0 = M 5 f 0 := (fk_row g.2.1 hf).1
  rw [HW_A g.1, e] at h
  exact h
theorem hw98_3 (g : HI H b tp rd pl t t2 tb lea len Q A Z s K X D n M fb) (hf : f < n 5) : xe (ixP fv) (d + 1) 98 0 [some (.ref b), some (.int (nI f)), some (.int 3)] [] H = some (.inl (some (.int (M 5 f 3))), H) := by
  have h := m98_3 (fv := fv) (d := d) (Q := Q) (A := A) (p := nI f) g.1.1.1 (by rw [g.2.1.1.1.1.2.2.2.2.1]; exact inL_n hf (by have := (HI_n g).2.2.2.2.2.1; omega))
  have e : fkL Q A (nI f) 3 = M 5 f 3 := (fk_row g.2.1 hf).2
  rw [HW_A g.1, e] at h
  exact h
theorem hw99 (g : HI H b tp rd pl t t2 tb lea len Q A Z s K X D n M fb) (hv : v < cnt (stB M) (n 2)) (hm : cnt (stB M) (n 2) < 2 ^ 31) : xe (ixP fv) (d + 4) 99 0 [some (.ref b), some (.int (nI v))] [] H = some (.inl (some (.int (piL Q A (nI v)))), H) := by
  have h := m99 (fv := fv) (d := d) (Q := Q) (A := A) (p := nI v) g.1.1.1 (by rw [pl_n g.2.1]; exact inL_n hv hm)
  rw [HW_A g.1] at h
  exact h
theorem hw110 (g : HI H b tp rd pl t t2 tb lea len Q A Z s K X D n M fb) : xe (ixP fv) (d + 3) 110 0 [some (.ref b), none] [] H = some (.inl (some (.double (meL Q A))), H) := by
  have h := m110 (fv := fv) (d := d) (Q := Q) (A := A) g.1.1.1
  rw [HW_A g.1] at h
  exact h
theorem hw111 (g : HI H b tp rd pl t t2 tb lea len Q A Z s K X D n M fb) : ∃ A', xe (ixP fv) (d + 6) 111 0 [some (.ref b), none, none, none, none] [] H = some (.inl (some (.long (dgL Q A len).1)), wAr H pl t Q A') ∧ eqA A A' := by
  have h := m111 (fv := fv) (d := d) (Q := Q) (A := A) g.1.1.1
  rw [HW_A g.1] at h
  exact ⟨_, h, (dg_eq g.2.1 eqA_r).2⟩
theorem ntL_n (h1 : 1 ≤ k) (h : k ≤ m) (hm : m < 2 ^ 31) : ntL (nI k) (nI m) = false := by
  unfold ntL
  rw [if_neg (show ¬ nI k < 1 from nI_nlt (b := 1) (by omega) (by omega)), if_pos (nI_le h hm)]
theorem hw105 (g : HI H b tp rd pl t t2 tb lea len Q A Z s K X D n M fb) (hp : p < n 2) : ∃ H' Z', xe (ixP fv) (d + 7) 105 0 [some (.ref b), some (.int (nI p)), none] [] H = some (.inl (some (.int (utV n p M))), H') ∧ HI H' b tp rd pl t t2 tb lea len Q A Z' s K X D n M fb ∧ H' = wC H pl t2 pl Q Z' := by
  obtain ⟨p2, hz⟩ := HW_Z g.1
  have h := m105 (fv := fv) (d := d) (p2 := p2) (Q := Q) (A := Z) (p := nI p) (HW_T g.1) (HI_Q1 g) (by rw [g.2.1.1.1.1.2.1]; exact inL_n hp (by have := (HI_n g).2.1; omega))
  obtain ⟨e1, e2⟩ := utL_eq g.2.1 g.2.2.1 hp
  rw [hz, e1] at h
  exact ⟨_, _, h, ⟨HW_putZ (p2 := pl) g.1, g.2.1, e2, g.2.2.2⟩, rfl⟩
theorem hw106_0 (g : HI H b tp rd pl t t2 tb lea len Q A Z s K X D n M fb) : ∃ H' Z', xe (ixP fv) (d + 7) 106 0 [some (.ref b), some (.int 1), some (.int 0), none] [] H = some (.inl (some (.int ((sPa M n).1))), H') ∧ HI H' b tp rd pl t t2 tb lea len Q A Z' s K X D n M fb ∧ H' = wC H pl t2 pl Q Z' := by
  obtain ⟨p2, hz⟩ := HW_Z g.1
  have h := m106_0 (fv := fv) (d := d) (p2 := p2) (Q := Q) (A := Z) (n := 1) (HW_T g.1) (HI_Q1 g) (by decide)
  have e := fs_eq g.2.1 g.2.2.1
  rw [hz, e.2.1] at h
  exact ⟨_, _, h, ⟨HW_putZ (p2 := pl) g.1, g.2.1, e.1, g.2.2.2⟩, rfl⟩
theorem hw106_1 (g : HI H b tp rd pl t t2 tb lea len Q A Z s K X D n M fb) : ∃ H' Z', xe (ixP fv) (d + 7) 106 0 [some (.ref b), some (.int 1), some (.int 1), none] [] H = some (.inl (some (.int (sLf (sPs M n) n (-1)))), H') ∧ HI H' b tp rd pl t t2 tb lea len Q A Z' s K X D n M fb ∧ H' = wC H pl t2 pl Q Z' := by
  obtain ⟨p2, hz⟩ := HW_Z g.1
  have h := m106_1 (fv := fv) (d := d) (p2 := p2) (Q := Q) (A := Z) (n := 1) (HW_T g.1) (HI_Q1 g) (by decide)
  have e := fs_eq g.2.1 g.2.2.1
  rw [hz, e.2.2.1] at h
  exact ⟨_, _, h, ⟨HW_putZ (p2 := pl) g.1, g.2.1, e.1, g.2.2.2⟩, rfl⟩
theorem hw106_2 (g : HI H b tp rd pl t t2 tb lea len Q A Z s K X D n M fb) : ∃ H' Z', xe (ixP fv) (d + 7) 106 0 [some (.ref b), some (.int 1), some (.int 2), none] [] H = some (.inl (some (.int (sDi (sPs M n) n))), H') ∧ HI H' b tp rd pl t t2 tb lea len Q A Z' s K X D n M fb ∧ H' = wC H pl t2 pl Q Z' := by
  obtain ⟨p2, hz⟩ := HW_Z g.1
  have h := m106_2 (fv := fv) (d := d) (p2 := p2) (Q := Q) (A := Z) (n := 1) (HW_T g.1) (HI_Q1 g) (by decide)
  have e := fs_eq g.2.1 g.2.2.1
  rw [hz, e.2.2.2.1] at h
  exact ⟨_, _, h, ⟨HW_putZ (p2 := pl) g.1, g.2.1, e.1, g.2.2.2⟩, rfl⟩
theorem hw106_3 (g : HI H b tp rd pl t t2 tb lea len Q A Z s K X D n M fb) : ∃ H' Z', xe (ixP fv) (d + 7) 106 0 [some (.ref b), some (.int 1), some (.int 3), none] [] H = some (.inl (some (.int (sDk (sPs M n) n))), H') ∧ HI H' b tp rd pl t t2 tb lea len Q A Z' s K X D n M fb ∧ H' = wC H pl t2 pl Q Z' := by
  obtain ⟨p2, hz⟩ := HW_Z g.1
  have h := m106_3 (fv := fv) (d := d) (p2 := p2) (Q := Q) (A := Z) (n := 1) (HW_T g.1) (HI_Q1 g) (by decide)
  have e := fs_eq g.2.1 g.2.2.1
  rw [hz, e.2.2.2.2] at h
  exact ⟨_, _, h, ⟨HW_putZ (p2 := pl) g.1, g.2.1, e.1, g.2.2.2⟩, rfl⟩
theorem hw107 (g : HI H b tp rd pl t t2 tb lea len Q A Z s K X D n M fb) : ∃ H' Z', xe (ixP fv) (d + 7) 107 0 [some (.ref b), some (.int 3), some (.int (M 0 0 1)), none] [] H = some (.inl (some (.int 0)), H') ∧ HI H' b tp rd pl t t2 tb lea len Q A Z' s K X D n M fb ∧ H' = wC H pl t2 pl Q Z' := by
  obtain ⟨p2, hz⟩ := HW_Z g.1
  have hw : nwL (M 0 0 1) = false := by
    obtain ⟨h1, h2⟩ := g.2.1.2.1.2.2.2.2
    unfold nwL
    rw [if_neg (by rw [Int32.lt_iff_toInt_lt]; show ¬ _ < (-3 : Int); omega), if_pos (by rw [Int32.le_iff_toInt_le]; show _ ≤ (3 : Int); omega)]
  have h := m107 (fv := fv) (d := d) (p2 := p2) (Q := Q) (A := Z) (n := 3) (v := M 0 0 1) (HW_T g.1) (HI_Q1 g) (by decide) hw
  have e := co_eq (m := 3) g.2.1 g.2.2.1 (by decide)
  rw [hz] at h
  exact ⟨_, _, h.trans (congrArg (fun z => some (Sum.inl (some (Value.int z)), wAr H pl t2 Q (coB Q A Z 3 (M 0 0 1)))) e.1), ⟨HW_putZ (p2 := pl) g.1, g.2.1, e.2, g.2.2.2⟩, rfl⟩
theorem hw108 (g : HI H b tp rd pl t t2 tb lea len Q A Z s K X D n M fb) (hc : c < n 4) (h1 : 1 ≤ m) (hm : m ≤ 24) : ∃ H' Z' a p2, xe (ixP fv) (d + 7) 108 0 [some (.ref b), some (.int (nI c)), some (.int (nI m)), none, none, none, none] [] H = some (.inl (some (.int (nI a))), H') ∧ a < n 2 ∧ HI H' b tp rd pl t t2 tb lea len Q A Z' s K X D n M fb ∧ H' = wC H pl t2 p2 Q Z' := by
  obtain ⟨p2, hz⟩ := HW_Z g.1
  obtain ⟨q2, h⟩ := m108 (fv := fv) (d := d) (p2 := p2) (Q := Q) (A := Z) (c := nI c) (n := nI m) (HW_T g.1) (HI_Q1 g) (by rw [g.2.1.1.1.1.2.2.2.1]; exact inL_n hc (by have := (HI_n g).2.2.2.2.1; omega)) (ntL_n (m := 24) h1 hm (by decide))
  obtain ⟨⟨a, e1, e2⟩, e3⟩ := av_eq (m := m) g.2.1 g.2.2.1 hc (by omega)
  rw [hz, e1] at h
  exact ⟨_, _, a, q2, h, e2, ⟨HW_putZ (p2 := q2) g.1, g.2.1, e3, g.2.2.2⟩, rfl⟩
theorem hw109 (g : HI H b tp rd pl t t2 tb lea len Q A Z s K X D n M fb) (h1 : 1 ≤ m) (hm : m ≤ 90) : ∃ H' Z' a p2, xe (ixP fv) (d + 7) 109 0 [some (.ref b), some (.int (nI m)), none, none, none, none] [] H = some (.inl (some (.int (nI a))), H') ∧ a < n 4 ∧ HI H' b tp rd pl t t2 tb lea len Q A Z' s K X D n M fb ∧ H' = wC H pl t2 p2 Q Z' := by
  obtain ⟨p2, hz⟩ := HW_Z g.1
  obtain ⟨q2, h⟩ := m109 (fv := fv) (d := d) (p2 := p2) (Q := Q) (A := Z) (n := nI m) (HW_T g.1) (HI_Q1 g) (ntL_n (m := 90) h1 hm (by decide))
  obtain ⟨⟨a, e1, e2⟩, e3⟩ := pr_eq (m := m) g.2.1 g.2.2.1 g.2.2.2.2.2.1 (by omega)
  rw [hz, e1] at h
  exact ⟨_, _, a, q2, h, e2, ⟨HW_putZ (p2 := q2) g.1, g.2.1, e3, g.2.2.2⟩, rfl⟩
end LAWC
