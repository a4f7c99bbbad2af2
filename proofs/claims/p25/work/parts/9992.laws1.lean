/-! THE LAW: isSame; Sim over the heap, the counts (written by gen9992.py). -/
section LAWS1
variable {fv : Value} {d : Nat} {H : ix_H} {b tp rd pl t t2 tb o : Nat} {lea len : Int32} {Q A A' Z Z' : Mem} {s : Nat} {K : Nat → Option (Nat × Nat)} {X : Nat → Nat} {D : Nat → Nat → Nat} {n fb : Nat → Nat} {M M' : Mm} {p c f q m k v j r : Nat} {w i x : Int32} {F : Nat → Int32} {l0 l1 l2 l3 l4 l5 l6 l7 l8 l9 : Option Value}
theorem hS0 {ty : FieldType} {fin : Bool} {Y : Option String} (g : HI H b tp rd pl t t2 tb lea len Q A Z s K X D n M fb) : rF (ixP fv) H s (7, 0, ty, fin, Y) = some (.int (M 0 0 0)) := by
  have h := rS0 (fv := fv) (ty := ty) (fin := fin) (Y := Y) (M := M) g.1.2.2.2.2.1
  rw [HW_S g.1] at h
  exact h
theorem hS1 {ty : FieldType} {fin : Bool} {Y : Option String} (g : HI H b tp rd pl t t2 tb lea len Q A Z s K X D n M fb) : rF (ixP fv) H s (7, 1, ty, fin, Y) = some (.int (M 0 0 1)) := by
  have h := rS1 (fv := fv) (ty := ty) (fin := fin) (Y := Y) (M := M) g.1.2.2.2.2.1
  rw [HW_S g.1] at h
  exact h
theorem hS2 {ty : FieldType} {fin : Bool} {Y : Option String} (g : HI H b tp rd pl t t2 tb lea len Q A Z s K X D n M fb) : rF (ixP fv) H s (7, 2, ty, fin, Y) = some (.int (M 0 0 2)) := by
  have h := rS2 (fv := fv) (ty := ty) (fin := fin) (Y := Y) (M := M) g.1.2.2.2.2.1
  rw [HW_S g.1] at h
  exact h
theorem hS3 {ty : FieldType} {fin : Bool} {Y : Option String} (g : HI H b tp rd pl t t2 tb lea len Q A Z s K X D n M fb) : rF (ixP fv) H s (7, 3, ty, fin, Y) = some (.int (M 0 0 3)) := by
  have h := rS3 (fv := fv) (ty := ty) (fin := fin) (Y := Y) (M := M) g.1.2.2.2.2.1
  rw [HW_S g.1] at h
  exact h
theorem hS4 {ty : FieldType} {fin : Bool} {Y : Option String} (g : HI H b tp rd pl t t2 tb lea len Q A Z s K X D n M fb) : rF (ixP fv) H s (7, 4, ty, fin, Y) = some (.ref (X 1)) := by
  have h := rS4 (fv := fv) (ty := ty) (fin := fin) (Y := Y) (M := M) g.1.2.2.2.2.1
  rw [HW_S g.1] at h
  exact h
theorem hS5 {ty : FieldType} {fin : Bool} {Y : Option String} (g : HI H b tp rd pl t t2 tb lea len Q A Z s K X D n M fb) : rF (ixP fv) H s (7, 5, ty, fin, Y) = some (.ref (X 2)) := by
  have h := rS5 (fv := fv) (ty := ty) (fin := fin) (Y := Y) (M := M) g.1.2.2.2.2.1
  rw [HW_S g.1] at h
  exact h
theorem hS6 {ty : FieldType} {fin : Bool} {Y : Option String} (g : HI H b tp rd pl t t2 tb lea len Q A Z s K X D n M fb) : rF (ixP fv) H s (7, 6, ty, fin, Y) = some (.ref (X 3)) := by
  have h := rS6 (fv := fv) (ty := ty) (fin := fin) (Y := Y) (M := M) g.1.2.2.2.2.1
  rw [HW_S g.1] at h
  exact h
theorem hS7 {ty : FieldType} {fin : Bool} {Y : Option String} (g : HI H b tp rd pl t t2 tb lea len Q A Z s K X D n M fb) : rF (ixP fv) H s (7, 7, ty, fin, Y) = some (.ref (X 4)) := by
  have h := rS7 (fv := fv) (ty := ty) (fin := fin) (Y := Y) (M := M) g.1.2.2.2.2.1
  rw [HW_S g.1] at h
  exact h
theorem hS8 {ty : FieldType} {fin : Bool} {Y : Option String} (g : HI H b tp rd pl t t2 tb lea len Q A Z s K X D n M fb) : rF (ixP fv) H s (7, 8, ty, fin, Y) = some (.ref (X 5)) := by
  have h := rS8 (fv := fv) (ty := ty) (fin := fin) (Y := Y) (M := M) g.1.2.2.2.2.1
  rw [HW_S g.1] at h
  exact h
theorem hS9 {ty : FieldType} {fin : Bool} {Y : Option String} (g : HI H b tp rd pl t t2 tb lea len Q A Z s K X D n M fb) : rF (ixP fv) H s (7, 9, ty, fin, Y) = some (.ref (X 6)) := by
  have h := rS9 (fv := fv) (ty := ty) (fin := fin) (Y := Y) (M := M) g.1.2.2.2.2.1
  rw [HW_S g.1] at h
  exact h
theorem hL1 (g : HI H b tp rd pl t t2 tb lea len Q A Z s K X D n M fb) : rN (ixP fv) H (X 1) = some (.int (nI (n 1))) := by
  have h := lR1 (fv := fv) (M := M) g.1.2.2.2.2.1
  rw [HW_S g.1] at h
  exact h
theorem hQ1 (g : HI H b tp rd pl t t2 tb lea len Q A Z s K X D n M fb) (hr : r < n 1) : rQ (ixP fv) H (X 1) (nI r) = some (.ref (D 1 r)) := by
  have h := rQ1 (fv := fv) (M := M) g.1.2.2.2.2.1 hr
  rw [HW_S g.1] at h
  exact h
theorem h1_0 (g : HI H b tp rd pl t t2 tb lea len Q A Z s K X D n M fb) (hr : r < n 1) : rA H (D 1 r) 0 = some (.int (M 1 r 0)) := by
  have h := c1_0 (M := M) g.1.2.2.2.2.1 hr
  rw [HW_S g.1] at h
  exact h
theorem h1_1 (g : HI H b tp rd pl t t2 tb lea len Q A Z s K X D n M fb) (hr : r < n 1) : rA H (D 1 r) 1 = some (.int (M 1 r 1)) := by
  have h := c1_1 (M := M) g.1.2.2.2.2.1 hr
  rw [HW_S g.1] at h
  exact h
theorem hL2 (g : HI H b tp rd pl t t2 tb lea len Q A Z s K X D n M fb) : rN (ixP fv) H (X 2) = some (.int (nI (n 2))) := by
  have h := lR2 (fv := fv) (M := M) g.1.2.2.2.2.1
  rw [HW_S g.1] at h
  exact h
theorem hQ2 (g : HI H b tp rd pl t t2 tb lea len Q A Z s K X D n M fb) (hr : r < n 2) : rQ (ixP fv) H (X 2) (nI r) = some (.ref (D 2 r)) := by
  have h := rQ2 (fv := fv) (M := M) g.1.2.2.2.2.1 hr
  rw [HW_S g.1] at h
  exact h
theorem h2_0 (g : HI H b tp rd pl t t2 tb lea len Q A Z s K X D n M fb) (hr : r < n 2) : rA H (D 2 r) 0 = some (.int (M 2 r 0)) := by
  have h := c2_0 (M := M) g.1.2.2.2.2.1 hr
  rw [HW_S g.1] at h
  exact h
theorem h2_1 (g : HI H b tp rd pl t t2 tb lea len Q A Z s K X D n M fb) (hr : r < n 2) : rA H (D 2 r) 1 = some (.int (M 2 r 1)) := by
  have h := c2_1 (M := M) g.1.2.2.2.2.1 hr
  rw [HW_S g.1] at h
  exact h
theorem h2_2 (g : HI H b tp rd pl t t2 tb lea len Q A Z s K X D n M fb) (hr : r < n 2) : rA H (D 2 r) 2 = some (.int (M 2 r 2)) := by
  have h := c2_2 (M := M) g.1.2.2.2.2.1 hr
  rw [HW_S g.1] at h
  exact h
theorem h2_3 (g : HI H b tp rd pl t t2 tb lea len Q A Z s K X D n M fb) (hr : r < n 2) : rA H (D 2 r) 3 = some (.int (M 2 r 3)) := by
  have h := c2_3 (M := M) g.1.2.2.2.2.1 hr
  rw [HW_S g.1] at h
  exact h
theorem hL3 (g : HI H b tp rd pl t t2 tb lea len Q A Z s K X D n M fb) : rN (ixP fv) H (X 3) = some (.int (nI (n 3))) := by
  have h := lR3 (fv := fv) (M := M) g.1.2.2.2.2.1
  rw [HW_S g.1] at h
  exact h
theorem hQ3 (g : HI H b tp rd pl t t2 tb lea len Q A Z s K X D n M fb) (hr : r < n 3) : rQ (ixP fv) H (X 3) (nI r) = some (.ref (D 3 r)) := by
  have h := rQ3 (fv := fv) (M := M) g.1.2.2.2.2.1 hr
  rw [HW_S g.1] at h
  exact h
theorem h3_0 (g : HI H b tp rd pl t t2 tb lea len Q A Z s K X D n M fb) (hr : r < n 3) : rA H (D 3 r) 0 = some (.int (M 3 r 0)) := by
  have h := c3_0 (M := M) g.1.2.2.2.2.1 hr
  rw [HW_S g.1] at h
  exact h
theorem h3_1 (g : HI H b tp rd pl t t2 tb lea len Q A Z s K X D n M fb) (hr : r < n 3) : rA H (D 3 r) 1 = some (.int (M 3 r 1)) := by
  have h := c3_1 (M := M) g.1.2.2.2.2.1 hr
  rw [HW_S g.1] at h
  exact h
theorem h3_2 (g : HI H b tp rd pl t t2 tb lea len Q A Z s K X D n M fb) (hr : r < n 3) : rA H (D 3 r) 2 = some (.int (M 3 r 2)) := by
  have h := c3_2 (M := M) g.1.2.2.2.2.1 hr
  rw [HW_S g.1] at h
  exact h
theorem h3_3 (g : HI H b tp rd pl t t2 tb lea len Q A Z s K X D n M fb) (hr : r < n 3) : rA H (D 3 r) 3 = some (.int (M 3 r 3)) := by
  have h := c3_3 (M := M) g.1.2.2.2.2.1 hr
  rw [HW_S g.1] at h
  exact h
theorem hL4 (g : HI H b tp rd pl t t2 tb lea len Q A Z s K X D n M fb) : rN (ixP fv) H (X 4) = some (.int (nI (n 4))) := by
  have h := lR4 (fv := fv) (M := M) g.1.2.2.2.2.1
  rw [HW_S g.1] at h
  exact h
theorem hQ4 (g : HI H b tp rd pl t t2 tb lea len Q A Z s K X D n M fb) (hr : r < n 4) : rQ (ixP fv) H (X 4) (nI r) = some (.ref (D 4 r)) := by
  have h := rQ4 (fv := fv) (M := M) g.1.2.2.2.2.1 hr
  rw [HW_S g.1] at h
  exact h
theorem h4_0 (g : HI H b tp rd pl t t2 tb lea len Q A Z s K X D n M fb) (hr : r < n 4) : rA H (D 4 r) 0 = some (.int (M 4 r 0)) := by
  have h := c4_0 (M := M) g.1.2.2.2.2.1 hr
  rw [HW_S g.1] at h
  exact h
theorem h4_1 (g : HI H b tp rd pl t t2 tb lea len Q A Z s K X D n M fb) (hr : r < n 4) : rA H (D 4 r) 1 = some (.int (M 4 r 1)) := by
  have h := c4_1 (M := M) g.1.2.2.2.2.1 hr
  rw [HW_S g.1] at h
  exact h
theorem h4_2 (g : HI H b tp rd pl t t2 tb lea len Q A Z s K X D n M fb) (hr : r < n 4) : rA H (D 4 r) 2 = some (.int (M 4 r 2)) := by
  have h := c4_2 (M := M) g.1.2.2.2.2.1 hr
  rw [HW_S g.1] at h
  exact h
theorem h4_3 (g : HI H b tp rd pl t t2 tb lea len Q A Z s K X D n M fb) (hr : r < n 4) : rA H (D 4 r) 3 = some (.int (M 4 r 3)) := by
  have h := c4_3 (M := M) g.1.2.2.2.2.1 hr
  rw [HW_S g.1] at h
  exact h
theorem h4_4 (g : HI H b tp rd pl t t2 tb lea len Q A Z s K X D n M fb) (hr : r < n 4) : rA H (D 4 r) 4 = some (.int (M 4 r 4)) := by
  have h := c4_4 (M := M) g.1.2.2.2.2.1 hr
  rw [HW_S g.1] at h
  exact h
theorem hL5 (g : HI H b tp rd pl t t2 tb lea len Q A Z s K X D n M fb) : rN (ixP fv) H (X 5) = some (.int (nI (n 5))) := by
  have h := lR5 (fv := fv) (M := M) g.1.2.2.2.2.1
  rw [HW_S g.1] at h
  exact h
theorem hQ5 (g : HI H b tp rd pl t t2 tb lea len Q A Z s K X D n M fb) (hr : r < n 5) : rQ (ixP fv) H (X 5) (nI r) = some (.ref (D 5 r)) := by
  have h := rQ5 (fv := fv) (M := M) g.1.2.2.2.2.1 hr
  rw [HW_S g.1] at h
  exact h
theorem h5_0 (g : HI H b tp rd pl t t2 tb lea len Q A Z s K X D n M fb) (hr : r < n 5) : rA H (D 5 r) 0 = some (.int (M 5 r 0)) := by
  have h := c5_0 (M := M) g.1.2.2.2.2.1 hr
  rw [HW_S g.1] at h
  exact h
theorem h5_1 (g : HI H b tp rd pl t t2 tb lea len Q A Z s K X D n M fb) (hr : r < n 5) : rA H (D 5 r) 1 = some (.int (M 5 r 1)) := by
  have h := c5_1 (M := M) g.1.2.2.2.2.1 hr
  rw [HW_S g.1] at h
  exact h
theorem h5_2 (g : HI H b tp rd pl t t2 tb lea len Q A Z s K X D n M fb) (hr : r < n 5) : rA H (D 5 r) 2 = some (.int (M 5 r 2)) := by
  have h := c5_2 (M := M) g.1.2.2.2.2.1 hr
  rw [HW_S g.1] at h
  exact h
theorem h5_3 (g : HI H b tp rd pl t t2 tb lea len Q A Z s K X D n M fb) (hr : r < n 5) : rA H (D 5 r) 3 = some (.int (M 5 r 3)) := by
  have h := c5_3 (M := M) g.1.2.2.2.2.1 hr
  rw [HW_S g.1] at h
  exact h
theorem hL6 (g : HI H b tp rd pl t t2 tb lea len Q A Z s K X D n M fb) : rN (ixP fv) H (X 6) = some (.int (nI (n 6))) := by
  have h := lR6 (fv := fv) (M := M) g.1.2.2.2.2.1
  rw [HW_S g.1] at h
  exact h
theorem hQ6 (g : HI H b tp rd pl t t2 tb lea len Q A Z s K X D n M fb) (hr : r < n 6) : rQ (ixP fv) H (X 6) (nI r) = some (.ref (D 6 r)) := by
  have h := rQ6 (fv := fv) (M := M) g.1.2.2.2.2.1 hr
  rw [HW_S g.1] at h
  exact h
theorem hm122 (g : HI H b tp rd pl t t2 tb lea len Q A Z s K X D n M fb) (hp : p < n 2) : xe (ixP fv) d 122 0 [some (.ref s), some (.int (nI p))] [] H = some (.inl (some (.int (sLi M p))), H) := by
  have h := m122 (fv := fv) (d := d) (M := M) g.1.2.2.2.2.1 hp
  rw [HW_S g.1] at h
  exact h
theorem hm123 (g : HI H b tp rd pl t t2 tb lea len Q A Z s K X D n M fb) : xe (ixP fv) (d + 1) 123 0 [some (.ref s), some (.int w), none, none] [] H = some (.inl (some (.int (sLf M n w))), H) := by
  have h := m123 (fv := fv) (d := d) (M := M) (b := w) g.1.2.2.2.2.1
  rw [HW_S g.1] at h
  exact h
theorem hm124 (g : HI H b tp rd pl t t2 tb lea len Q A Z s K X D n M fb) (hp : p < n 1) : xe (ixP fv) (d + 2) 124 0 [some (.ref s), some (.int (nI p))] [] H = some (.inl (some (.int (b01 (sDa M n (nI p))))), H) := by
  have h := m124 (fv := fv) (d := d) (M := M) (b := nI p) g.1.2.2.2.2.1 (vx_nI hp (by have := (HI_n g).1; omega))
  rw [HW_S g.1] at h
  exact h
theorem hm128 (g : HI H b tp rd pl t t2 tb lea len Q A Z s K X D n M fb) (hp : p < n 2) : xe (ixP fv) d 128 0 [some (.ref s), some (.int (nI p)), none, none] [] H = some (.inl (some (.int (b01 (sFr M n (nI p))))), H) := by
  have h := m128 (fv := fv) (d := d) (M := M) (i := nI p) g.1.2.2.2.2.1 (vx_nI hp (by have := (HI_n g).2.1; omega))
  rw [HW_S g.1] at h
  exact h
theorem hm129 (g : HI H b tp rd pl t t2 tb lea len Q A Z s K X D n M fb) (hc : c < n 4) : xe (ixP fv) (d + 4) 129 0 [some (.ref s), some (.int (nI c)), none, none, none, none, none] [] H = some (.inl (some (.int (sGl M n c))), H) := by
  have h := m129 (fv := fv) (d := d) (M := M) g.1.2.2.2.2.1 g.2.1.1.2.2.2.2.2.2.1 hc
  rw [HW_S g.1] at h
  exact h
theorem hm132 (g : HI H b tp rd pl t t2 tb lea len Q A Z s K X D n M fb) : xe (ixP fv) d 132 0 [some (.ref s), none, none, none, none, none] [] H = some (.inl (some (.int (sDi M n))), H) := by
  have h := m132 (fv := fv) (d := d) (M := M) g.1.2.2.2.2.1
  rw [HW_S g.1] at h
  exact h
theorem hm133 (g : HI H b tp rd pl t t2 tb lea len Q A Z s K X D n M fb) : xe (ixP fv) d 133 0 [some (.ref s), none, none, none, none, none] [] H = some (.inl (some (.int (sGn M n))), H) := by
  have h := m133 (fv := fv) (d := d) (M := M) g.1.2.2.2.2.1
  rw [HW_S g.1] at h
  exact h
theorem hm134 (g : HI H b tp rd pl t t2 tb lea len Q A Z s K X D n M fb) : xe (ixP fv) (d + 3) 134 0 [some (.ref s), none, none] [] H = some (.inl (some (.int (sDk M n))), H) := by
  have h := m134 (fv := fv) (d := d) (M := M) g.1.2.2.2.2.1
  rw [HW_S g.1] at h
  exact h
theorem hw94_0 (g : HI H b tp rd pl t t2 tb lea len Q A Z s K X D n M fb) : xe (ixP fv) (d + 4) 94 0 [some (.ref b), some (.int 0), none] [] H = some (.inl (some (.int (M 0 0 0))), H) := by
  have h := m94_0 (fv := fv) (d := d) (Q := Q) (A := A) g.1.1.1
  have e : ctL Q A len 0 = M 0 0 0 := (show ctL Q A len 0 = A 0 0 by simp only [ctL]).trans (g.2.1.1.2.1.1.1)
  rw [HW_A g.1, e] at h
  exact h
theorem hw94_4 (g : HI H b tp rd pl t t2 tb lea len Q A Z s K X D n M fb) : xe (ixP fv) (d + 4) 94 0 [some (.ref b), some (.int 4), none] [] H = some (.inl (some (.int (nI (n 3)))), H) := by
  have h := m94_4 (fv := fv) (d := d) (Q := Q) (A := A) g.1.1.1
  have e : ctL Q A len 4 = nI (n 3) := (show ctL Q A len 4 = Q 0 2 by simp only [ctL]).trans (g.2.1.1.1.1.2.2.1)
  rw [HW_A g.1, e] at h
  exact h
theorem hw94_7 (g : HI H b tp rd pl t t2 tb lea len Q A Z s K X D n M fb) : xe (ixP fv) (d + 4) 94 0 [some (.ref b), some (.int 7), none] [] H = some (.inl (some (.int (nI (n 6)))), H) := by
  have h := m94_7 (fv := fv) (d := d) (Q := Q) (A := A) g.1.1.1
  have e : ctL Q A len 7 = nI (n 6) := (show ctL Q A len 7 = Q 0 5 by simp only [ctL]).trans (g.2.1.1.1.1.2.2.2.2.2)
  rw [HW_A g.1, e] at h
  exact h
theorem hw94_13 (g : HI H b tp rd pl t t2 tb lea len Q A Z s K X D n M fb) : xe (ixP fv) (d + 4) 94 0 [some (.ref b), some (.int 13), none] [] H = some (.inl (some (.int (0))), H) := by
  have h := m94_13 (fv := fv) (d := d) (Q := Q) (A := A) g.1.1.1
  have e : ctL Q A len 13 = 0 := (show ctL Q A len 13 = len by simp only [ctL]).trans (g.2.2.2.2.2.2.2.2.2)
  rw [HW_A g.1, e] at h
  exact h
/-- what count tells -/
def vC (M : Mm) (n : Nat → Nat) : Nat → Int32
  | 0 => M 0 0 0
  | 1 => M 0 0 1
  | 2 => nI (n 1)
  | 3 => nI (n 2)
  | 4 => nI (n 3)
  | 5 => nI (n 4)
  | 6 => nI (n 5)
  | 7 => nI (n 6)
  | 8 => sLf M n (-1)
  | 9 => sDi M n
  | 10 => sGn M n
  | 11 => M 0 0 2
  | 12 => sDk M n
  | _ => 0
theorem hwC (g : HI H b tp rd pl t t2 tb lea len Q A Z s K X D n M fb) : ∀ k, k < 14 → xe (ixP fv) (d + 4) 94 0 [some (.ref b), some (.int (nI k)), none] [] H = some (.inl (some (.int (vC M n k))), H)
  | 0, _ => hw94_0 g
  | 1, _ => hw94_1 g
  | 2, _ => hw94_2 g
  | 3, _ => hw94_3 g
  | 4, _ => hw94_4 g
  | 5, _ => hw94_5 g
  | 6, _ => hw94_6 g
  | 7, _ => hw94_7 g
  | 8, _ => hw94_8 g
  | 9, _ => hw94_9 g
  | 10, _ => hw94_10 g
  | 11, _ => (hw94_11 g).trans (by rw [g.2.2.2.2.2.2.2.2.1]; rfl)
  | 12, _ => hw94_12 g
  | 13, _ => hw94_13 g
  | _ + 14, h => by omega
theorem wE (hH : 98 ≤ H.length) (hj : j < m) (hm : m ≤ 50000) : wA (ixP fv) (H ++ [.inl (0, m, .inl F)]) H.length (nI j) w = some (H ++ [.inl (0, m, .inl (upd F j w))]) := by
  rw [wA_of get_end hH (in_big hj (by omega)), nI_clamp (by omega), set_end]
theorem izI : ix_z (newarray.typeOf .int) = .inl (fun _ => 0) := rfl
theorem s_cnt0 (g : HI H b tp rd pl t t2 tb lea len Q A Z s K X D n M fb) : xe (ixP fv) (d + 9) 135 0 [some (.ref s), some (.ref b), none, none, none, none, none, none, none, none] [] H = xe (ixP fv) (d + 9) 135 117 [some (.ref s), some (.ref b), some (.ref (H.length)), some (.int (nI 0)), none, none, none, none, none, none] [] (H ++ [.inl (0, 14, .inl (upd (upd (upd (upd (upd (upd (upd (upd (upd (upd (upd (upd (upd (upd (fun _ => 0) 0 (M 0 0 0)) 1 (M 0 0 1)) 2 (nI (n 1))) 3 (nI (n 2))) 4 (nI (n 3))) 5 (nI (n 4))) 6 (nI (n 5))) 7 (nI (n 6))) 8 (sLf M n (-1))) 9 (sDi M n)) 10 (sGn M n)) 11 (M 0 0 2)) 12 (sDk M n)) 13 (0)))]) := by
  obtain ⟨a1, a2, a3, a4, a5, a6⟩ := HW_lt g.1
  have h98 : 98 ≤ H.length := by omega
  have e0 := fun (F : Nat → Int32) ty fin Y => hS0 (fv := fv) (ty := ty) (fin := fin) (Y := Y) (HI_push g (l := [.inl (0, 14, .inl F)]))
  have e1 := fun (F : Nat → Int32) ty fin Y => hS1 (fv := fv) (ty := ty) (fin := fin) (Y := Y) (HI_push g (l := [.inl (0, 14, .inl F)]))
  have e2 := fun (F : Nat → Int32) ty fin Y => hS2 (fv := fv) (ty := ty) (fin := fin) (Y := Y) (HI_push g (l := [.inl (0, 14, .inl F)]))
  have e4 := fun (F : Nat → Int32) ty fin Y => hS4 (fv := fv) (ty := ty) (fin := fin) (Y := Y) (HI_push g (l := [.inl (0, 14, .inl F)]))
  have e5 := fun (F : Nat → Int32) ty fin Y => hS5 (fv := fv) (ty := ty) (fin := fin) (Y := Y) (HI_push g (l := [.inl (0, 14, .inl F)]))
  have e6 := fun (F : Nat → Int32) ty fin Y => hS6 (fv := fv) (ty := ty) (fin := fin) (Y := Y) (HI_push g (l := [.inl (0, 14, .inl F)]))
  have e7 := fun (F : Nat → Int32) ty fin Y => hS7 (fv := fv) (ty := ty) (fin := fin) (Y := Y) (HI_push g (l := [.inl (0, 14, .inl F)]))
  have e8 := fun (F : Nat → Int32) ty fin Y => hS8 (fv := fv) (ty := ty) (fin := fin) (Y := Y) (HI_push g (l := [.inl (0, 14, .inl F)]))
  have e9 := fun (F : Nat → Int32) ty fin Y => hS9 (fv := fv) (ty := ty) (fin := fin) (Y := Y) (HI_push g (l := [.inl (0, 14, .inl F)]))
  have n1 := fun (F : Nat → Int32) => hL1 (fv := fv) (HI_push g (l := [.inl (0, 14, .inl F)]))
  have n2 := fun (F : Nat → Int32) => hL2 (fv := fv) (HI_push g (l := [.inl (0, 14, .inl F)]))
  have n3 := fun (F : Nat → Int32) => hL3 (fv := fv) (HI_push g (l := [.inl (0, 14, .inl F)]))
  have n4 := fun (F : Nat → Int32) => hL4 (fv := fv) (HI_push g (l := [.inl (0, 14, .inl F)]))
  have n5 := fun (F : Nat → Int32) => hL5 (fv := fv) (HI_push g (l := [.inl (0, 14, .inl F)]))
  have n6 := fun (F : Nat → Int32) => hL6 (fv := fv) (HI_push g (l := [.inl (0, 14, .inl F)]))
  have m1 := fun (F : Nat → Int32) d w => hm123 (fv := fv) (d := d) (w := w) (HI_push g (l := [.inl (0, 14, .inl F)]))
  have m2 := fun (F : Nat → Int32) d => hm132 (fv := fv) (d := d) (HI_push g (l := [.inl (0, 14, .inl F)]))
  have m3 := fun (F : Nat → Int32) d => hm133 (fv := fv) (d := d) (HI_push g (l := [.inl (0, 14, .inl F)]))
  have m4 := fun (F : Nat → Int32) d => hm134 (fv := fv) (d := d) (HI_push g (l := [.inl (0, 14, .inl F)]))
  have is := fun (F : Nat → Int32) => HI_isS (fv := fv) (HI_push g (l := [.inl (0, 14, .inl F)]))
  have k14 : (14 : Int32).toNatClampNeg = 14 := nI_clamp (n := 14) (by decide)
  have b14 : ix_big 14 = true := bg (m := 14) (by decide)
  have w0 : ∀ (F : Nat → Int32) (w : Int32), wA (ixP fv) (H ++ [.inl (0, 14, .inl F)]) H.length 0 w = some (H ++ [.inl (0, 14, .inl (upd F 0 w))]) := fun F w => wE (j := 0) h98 (by decide) (by decide)
  have w1 : ∀ (F : Nat → Int32) (w : Int32), wA (ixP fv) (H ++ [.inl (0, 14, .inl F)]) H.length 1 w = some (H ++ [.inl (0, 14, .inl (upd F 1 w))]) := fun F w => wE (j := 1) h98 (by decide) (by decide)
  have w2 : ∀ (F : Nat → Int32) (w : Int32), wA (ixP fv) (H ++ [.inl (0, 14, .inl F)]) H.length 2 w = some (H ++ [.inl (0, 14, .inl (upd F 2 w))]) := fun F w => wE (j := 2) h98 (by decide) (by decide)
  have w3 : ∀ (F : Nat → Int32) (w : Int32), wA (ixP fv) (H ++ [.inl (0, 14, .inl F)]) H.length 3 w = some (H ++ [.inl (0, 14, .inl (upd F 3 w))]) := fun F w => wE (j := 3) h98 (by decide) (by decide)
  have w4 : ∀ (F : Nat → Int32) (w : Int32), wA (ixP fv) (H ++ [.inl (0, 14, .inl F)]) H.length 4 w = some (H ++ [.inl (0, 14, .inl (upd F 4 w))]) := fun F w => wE (j := 4) h98 (by decide) (by decide)
  have w5 : ∀ (F : Nat → Int32) (w : Int32), wA (ixP fv) (H ++ [.inl (0, 14, .inl F)]) H.length 5 w = some (H ++ [.inl (0, 14, .inl (upd F 5 w))]) := fun F w => wE (j := 5) h98 (by decide) (by decide)
  have w6 : ∀ (F : Nat → Int32) (w : Int32), wA (ixP fv) (H ++ [.inl (0, 14, .inl F)]) H.length 6 w = some (H ++ [.inl (0, 14, .inl (upd F 6 w))]) := fun F w => wE (j := 6) h98 (by decide) (by decide)
  have w7 : ∀ (F : Nat → Int32) (w : Int32), wA (ixP fv) (H ++ [.inl (0, 14, .inl F)]) H.length 7 w = some (H ++ [.inl (0, 14, .inl (upd F 7 w))]) := fun F w => wE (j := 7) h98 (by decide) (by decide)
  have w8 : ∀ (F : Nat → Int32) (w : Int32), wA (ixP fv) (H ++ [.inl (0, 14, .inl F)]) H.length 8 w = some (H ++ [.inl (0, 14, .inl (upd F 8 w))]) := fun F w => wE (j := 8) h98 (by decide) (by decide)
  have w9 : ∀ (F : Nat → Int32) (w : Int32), wA (ixP fv) (H ++ [.inl (0, 14, .inl F)]) H.length 9 w = some (H ++ [.inl (0, 14, .inl (upd F 9 w))]) := fun F w => wE (j := 9) h98 (by decide) (by decide)
  have w10 : ∀ (F : Nat → Int32) (w : Int32), wA (ixP fv) (H ++ [.inl (0, 14, .inl F)]) H.length 10 w = some (H ++ [.inl (0, 14, .inl (upd F 10 w))]) := fun F w => wE (j := 10) h98 (by decide) (by decide)
  have w11 : ∀ (F : Nat → Int32) (w : Int32), wA (ixP fv) (H ++ [.inl (0, 14, .inl F)]) H.length 11 w = some (H ++ [.inl (0, 14, .inl (upd F 11 w))]) := fun F w => wE (j := 11) h98 (by decide) (by decide)
  have w12 : ∀ (F : Nat → Int32) (w : Int32), wA (ixP fv) (H ++ [.inl (0, 14, .inl F)]) H.length 12 w = some (H ++ [.inl (0, 14, .inl (upd F 12 w))]) := fun F w => wE (j := 12) h98 (by decide) (by decide)
  have w13 : ∀ (F : Nat → Int32) (w : Int32), wA (ixP fv) (H ++ [.inl (0, 14, .inl F)]) H.length 13 w = some (H ++ [.inl (0, 14, .inl (upd F 13 w))]) := fun F w => wE (j := 13) h98 (by decide) (by decide)
  simp only [q135_0, q135_2 b14, q135_4, q135_5, q135_6, q135_7, q135_10, q135_11, q135_12, q135_13, q135_14, q135_17, q135_18, q135_19, q135_20, q135_21, q135_24, q135_25, q135_26, q135_27, q135_28, q135_29, q135_32, q135_33, q135_34, q135_35, q135_36, q135_37, q135_40, q135_41, q135_42, q135_43, q135_44, q135_45, q135_48, q135_49, q135_50, q135_51, q135_53, q135_54, q135_57, q135_58, q135_59, q135_60, q135_62, q135_63, q135_66, q135_67, q135_68, q135_69, q135_71, q135_72, q135_73, q135_76, q135_77, q135_78, q135_80, q135_81, q135_84, q135_85, q135_86, q135_88, q135_89, q135_92, q135_93, q135_94, q135_96, q135_97, q135_100, q135_101, q135_102, q135_104, q135_105, q135_108, q135_109, q135_110, q135_112, q135_113, q135_114, q135_115, q135_116, i10, eq_self, ft0, ft1, b01_ft, k1r, k1i, xG_some, xH_some, xC_v, xC_n, if_true, if_false, not_true_eq_false, not_false_eq_true, ix_st, ix_st2, List.getElem?_cons_succ, List.getElem?_cons_zero, List.set_cons_succ, List.set_cons_zero, Value.category, List.map_cons, List.map_nil, List.sum_cons, List.sum_nil, Nat.reduceAdd, Nat.reduceLeDiff, Nat.reduceEqDiff, Nat.zero_le, reduceCtorEq, ↓reduceIte, eq_self, xit, e0, e1, e2, e4, e5, e6, e7, e8, e9, n1, n2, n3, n4, n5, n6, m1, m2, m3, m4, is, k14, izI, w0, w1, w2, w3, w4, w5, w6, w7, w8, w9, w10, w11, w12, w13]
  rfl
theorem s_cnt1 (g : HI H b tp rd pl t t2 tb lea len Q A Z s K X D n M fb) (h2 : H[o]? = some (.inl (0, 14, .inl F))) (hF : ∀ k, k < 14 → F k = vC M n k) : ∀ r k, k + r = 14 → xe (ixP fv) (d + 9) 135 117 [some (.ref s), some (.ref b), some (.ref (o)), some (.int (nI k)), l4, l5, l6, l7, l8, l9] [] H = xe (ixP fv) (d + 9) 135 142 [some (.ref s), some (.ref b), some (.ref (o)), some (.int (nI 14)), l4, l5, l6, l7, l8, l9] [] H
  | 0, k, e => by
    have : k = 14 := by omega
    subst this
    have c1 : (14 : Int32) ≤ nI 14 := by decide
    simp only [q135_117 (x := nI 14), q135_118, q135_120, i10, eq_self, ft0, ft1, b01_ft, k1r, k1i, xG_some, xH_some, xC_v, xC_n, if_true, if_false, not_true_eq_false, not_false_eq_true, ix_st, ix_st2, List.getElem?_cons_succ, List.getElem?_cons_zero, List.set_cons_succ, List.set_cons_zero, Value.category, List.map_cons, List.map_nil, List.sum_cons, List.sum_nil, Nat.reduceAdd, Nat.reduceLeDiff, Nat.reduceEqDiff, Nat.zero_le, reduceCtorEq, ↓reduceIte, eq_self, xit, c1]
  | r + 1, k, e => by
    have ih := s_cnt1 g h2 hF r (k + 1) (by omega)
    refine Eq.trans ?_ ih
    have hk : k < 14 := by omega
    have c1 : ¬ (14 : Int32) ≤ nI k := show ¬ nI 14 ≤ nI k from nI_ge hk (by omega)
    have e1 := fun d => hwC (fv := fv) (d := d) g k hk
    have e2 : rA H o (nI k) = some (.int (vC M n k)) := by rw [rA_of h2 (in_big hk (by omega)), nI_clamp (by omega), hF k hk]
    have ek : nI k + 1 = nI (k + 1) := nI_add k 1
    simp only [q135_117 (x := nI k), q135_118, q135_120, q135_123, q135_124, q135_125, q135_128, q135_129, q135_130, q135_131, q135_134, q135_135 (st := []), q135_136, q135_139, i10, eq_self, ft0, ft1, b01_ft, k1r, k1i, xG_some, xH_some, xC_v, xC_n, if_true, if_false, not_true_eq_false, not_false_eq_true, ix_st, ix_st2, List.getElem?_cons_succ, List.getElem?_cons_zero, List.set_cons_succ, List.set_cons_zero, Value.category, List.map_cons, List.map_nil, List.sum_cons, List.sum_nil, Nat.reduceAdd, Nat.reduceLeDiff, Nat.reduceEqDiff, Nat.zero_le, reduceCtorEq, ↓reduceIte, eq_self, xit, c1, e1, e2, ek, HI_is g]
/-- the counts -/
theorem s_cnt (g : HI H b tp rd pl t t2 tb lea len Q A Z s K X D n M fb) : ∃ H', HI H' b tp rd pl t t2 tb lea len Q A Z s K X D n M fb ∧ H'.length = H.length + 1 ∧ ix_sz H' = ix_sz H + 14 ∧ xe (ixP fv) (d + 9) 135 0 [some (.ref s), some (.ref b), none, none, none, none, none, none, none, none] [] H = xe (ixP fv) (d + 9) 135 142 [some (.ref s), some (.ref b), some (.ref (H.length)), some (.int (nI 14)), none, none, none, none, none, none] [] H' := by
  refine ⟨_, HI_push g, ?_, ix_sz_push _ _, (s_cnt0 g).trans (s_cnt1 (HI_push g) get_end (fun k hk => ?_) 14 0 rfl)⟩
  · rw [List.length_append]
    rfl
  · rcases k with _ | _ | _ | _ | _ | _ | _ | _ | _ | _ | _ | _ | _ | _ | k
    all_goals first | rfl | omega
end LAWS1
