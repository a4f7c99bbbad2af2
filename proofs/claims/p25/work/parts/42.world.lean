/-! THE WORLDS of a plan and an arcade (written by gen42.py). Memories: row 0 holds the numbers, row k the row k cells behind the object. -/
abbrev Mem : Type := Nat → Nat → Int32
def ia (n : Nat) (a : Nat → Int32) : ix_C := .inl (0, n, .inl a)
def sm (A : Mem) (a i : Nat) (v : Int32) : Mem := fun b => if b = a then upd (A b) i v else A b
def sp (A : Mem) (a n : Nat) (i v : Int32) : Mem := if ix_in i n = true then sm A a i.toNatClampNeg v else A
def flm (A : Mem) (a n : Nat) (v : Int32) : Mem := fun b => if b = a then (fun j => if j < n then v else A b j) else A b
def cpm (A : Mem) (a n : Nat) (F : Nat → Int32) : Mem := fun b => if b = a then (fun j => if j < n then F j else A b j) else A b
def plc (pl : Nat) (Q : Mem) : List ix_C := [.inr (2, [.int (Q 0 0), .ref (pl + 1), .ref (pl + 2), .ref (pl + 3), .int (Q 0 1), .ref (pl + 4), .int (Q 0 2), .ref (pl + 5), .ref (pl + 6), .ref (pl + 7), .ref (pl + 8), .int (Q 0 3), .ref (pl + 9), .ref (pl + 10), .ref (pl + 11), .int (Q 0 4), .ref (pl + 12), .ref (pl + 13), .ref (pl + 14)]), ia 5 (Q 1), ia 5 (Q 2), ia 5 (Q 3), ia 40 (Q 4), ia 4 (Q 5), ia 4 (Q 6), ia 4 (Q 7), ia 4 (Q 8), ia 3 (Q 9), ia 3 (Q 10), ia 3 (Q 11), ia 3 (Q 12), ia 3 (Q 13), .inr (1, [.int (Q 0 5), .ref (pl + 15), .ref (pl + 16), .ref (pl + 17), .ref (pl + 18), .ref (pl + 19), .int (Q 0 6), .ref (pl + 20), .ref (pl + 21)]), ia 16 (Q 15), ia 16 (Q 16), ia 16 (Q 17), ia 16 (Q 18), ia 16 (Q 19), ia 400 (Q 20), ia 400 (Q 21)]
def arc (t pl : Nat) (A : Mem) : List ix_C := [.inr (0, [.ref pl, .int (A 0 0), .int (A 0 1), .int (A 0 2), .int (A 0 3), .ref (t + 1), .ref (t + 2), .ref (t + 3), .ref (t + 4), .ref (t + 5), .ref (t + 6), .ref (t + 7), .ref (t + 8), .ref (t + 9), .int (A 0 4)]), ia 40 (A 1), ia 40 (A 2), ia 40 (A 3), ia 3 (A 4), ia 3 (A 5), ia 3 (A 6), ia 3 (A 7), ia 3 (A 8), ia 400 (A 9)]
def wP (h : ix_H) (pl : Nat) (Q : Mem) : ix_H := ov h pl (plc pl Q)
def wAr (h : ix_H) (pl t : Nat) (Q A : Mem) : ix_H := ov (wP h pl Q) t (arc t pl A)
def gP (h : ix_H) (pl : Nat) : Prop := 98 ≤ pl ∧ pl + 22 ≤ h.length
def gA (h : ix_H) (pl t : Nat) : Prop := 98 ≤ pl ∧ pl + 22 ≤ t ∧ t + 10 ≤ h.length
theorem ov_set0 {h : ix_H} {t : Nat} {cs : List ix_C} {c : ix_C} (hk : 0 < cs.length) : (ov h t cs).set t c = ov h t (cs.set 0 c) := ov_set (k := 0) hk
theorem k1r {x : Nat} : ix_k1 (.ref x) = true := by simp [ix_k1, Value.category]
theorem k1i {x : Int32} : ix_k1 (.int x) = true := by simp [ix_k1, Value.category]
theorem i10 : ((1 : Int32) = 0) = False := eq_false (by decide)
section WORLD
variable {fv : Value} {h : ix_H} {pl t : Nat} {Q A : Mem}
theorem rF_of {o c f : Nat} {fs : List Value} {ty : FieldType} {fin : Bool} {X : Option String} {v : Value} (e : h[o]? = some (.inr (c, fs))) (ho : 98 ≤ o) (hf : fs[f]? = some v) : rF (ixP fv) h o (c, f, ty, fin, X) = some v := by
  unfold rF ix_ob
  rw [e]
  exact (if_pos ⟨Or.inl ho, rfl⟩).trans hf
theorem wF_of {o c f : Nat} {fs : List Value} {ty : FieldType} {fin ini : Bool} {X : Option String} {v : Value} (e : h[o]? = some (.inr (c, fs))) (ho : 98 ≤ o) (hf : f < fs.length) (ht : ix_ft ty v = true) (hfin : fin = false ∨ (ini = true ∧ X = none)) : wF (ixP fv) h o (c, f, ty, fin, X) ini v = some (h.set o (.inr (c, fs.set f v))) := by
  unfold wF ix_ob
  rw [e]
  exact if_pos ⟨ho, rfl, hf, ht, hfin⟩
theorem is_of {o c : Nat} {fs : List Value} {C : String} (e : h[o]? = some (.inr (c, fs))) (hc : (ixCL[c]?.map (fun r => r.1 == C)) = some true) : ix_is (ixP fv) h o C = true := by
  unfold ix_is
  rw [e]
  show (match ixCL[c]? with | some r => r.1 == C | none => false) = true
  cases hx : ixCL[c]? with
  | none => rw [hx] at hc; cases hc
  | some r => rw [hx] at hc; exact Option.some.inj hc
theorem wP_len : (wP h pl Q).length = h.length := ov_len _ _ _
theorem wAr_len : (wAr h pl t Q A).length = h.length := (ov_len _ _ _).trans wP_len
theorem gA_P (g : gA h pl t) : gP h pl := ⟨g.1, Nat.le_trans g.2.1 (Nat.le_trans (Nat.le_add_right t 10) g.2.2)⟩
theorem gA_le (g : gA h pl t) : 98 ≤ t := Nat.le_trans g.1 (Nat.le_trans (Nat.le_add_right pl 22) g.2.1)
theorem wP_c0 (g : gP h pl) : (wP h pl Q)[pl]? = some (.inr (2, [.int (Q 0 0), .ref (pl + 1), .ref (pl + 2), .ref (pl + 3), .int (Q 0 1), .ref (pl + 4), .int (Q 0 2), .ref (pl + 5), .ref (pl + 6), .ref (pl + 7), .ref (pl + 8), .int (Q 0 3), .ref (pl + 9), .ref (pl + 10), .ref (pl + 11), .int (Q 0 4), .ref (pl + 12), .ref (pl + 13), .ref (pl + 14)])) := (ov_in0 (cs := plc pl Q) g.2 (by show _ < 22; decide)).trans rfl
theorem wAr_p0 (g : gA h pl t) : (wAr h pl t Q A)[pl]? = some (.inr (2, [.int (Q 0 0), .ref (pl + 1), .ref (pl + 2), .ref (pl + 3), .int (Q 0 1), .ref (pl + 4), .int (Q 0 2), .ref (pl + 5), .ref (pl + 6), .ref (pl + 7), .ref (pl + 8), .int (Q 0 3), .ref (pl + 9), .ref (pl + 10), .ref (pl + 11), .int (Q 0 4), .ref (pl + 12), .ref (pl + 13), .ref (pl + 14)])) := (ov_lo (by have := g.2.1; omega)).trans (wP_c0 (gA_P g))
theorem wP_c1 (g : gP h pl) : (wP h pl Q)[(pl + 1)]? = some (ia 5 (Q 1)) := (ov_in (cs := plc pl Q) g.2 (by show _ < 22; decide)).trans rfl
theorem wAr_p1 (g : gA h pl t) : (wAr h pl t Q A)[(pl + 1)]? = some (ia 5 (Q 1)) := (ov_lo (by have := g.2.1; omega)).trans (wP_c1 (gA_P g))
theorem wP_c2 (g : gP h pl) : (wP h pl Q)[(pl + 2)]? = some (ia 5 (Q 2)) := (ov_in (cs := plc pl Q) g.2 (by show _ < 22; decide)).trans rfl
theorem wAr_p2 (g : gA h pl t) : (wAr h pl t Q A)[(pl + 2)]? = some (ia 5 (Q 2)) := (ov_lo (by have := g.2.1; omega)).trans (wP_c2 (gA_P g))
theorem wP_c3 (g : gP h pl) : (wP h pl Q)[(pl + 3)]? = some (ia 5 (Q 3)) := (ov_in (cs := plc pl Q) g.2 (by show _ < 22; decide)).trans rfl
theorem wAr_p3 (g : gA h pl t) : (wAr h pl t Q A)[(pl + 3)]? = some (ia 5 (Q 3)) := (ov_lo (by have := g.2.1; omega)).trans (wP_c3 (gA_P g))
theorem wP_c4 (g : gP h pl) : (wP h pl Q)[(pl + 4)]? = some (ia 40 (Q 4)) := (ov_in (cs := plc pl Q) g.2 (by show _ < 22; decide)).trans rfl
theorem wAr_p4 (g : gA h pl t) : (wAr h pl t Q A)[(pl + 4)]? = some (ia 40 (Q 4)) := (ov_lo (by have := g.2.1; omega)).trans (wP_c4 (gA_P g))
theorem wP_c5 (g : gP h pl) : (wP h pl Q)[(pl + 5)]? = some (ia 4 (Q 5)) := (ov_in (cs := plc pl Q) g.2 (by show _ < 22; decide)).trans rfl
theorem wAr_p5 (g : gA h pl t) : (wAr h pl t Q A)[(pl + 5)]? = some (ia 4 (Q 5)) := (ov_lo (by have := g.2.1; omega)).trans (wP_c5 (gA_P g))
theorem wP_c6 (g : gP h pl) : (wP h pl Q)[(pl + 6)]? = some (ia 4 (Q 6)) := (ov_in (cs := plc pl Q) g.2 (by show _ < 22; decide)).trans rfl
theorem wAr_p6 (g : gA h pl t) : (wAr h pl t Q A)[(pl + 6)]? = some (ia 4 (Q 6)) := (ov_lo (by have := g.2.1; omega)).trans (wP_c6 (gA_P g))
theorem wP_c7 (g : gP h pl) : (wP h pl Q)[(pl + 7)]? = some (ia 4 (Q 7)) := (ov_in (cs := plc pl Q) g.2 (by show _ < 22; decide)).trans rfl
theorem wAr_p7 (g : gA h pl t) : (wAr h pl t Q A)[(pl + 7)]? = some (ia 4 (Q 7)) := (ov_lo (by have := g.2.1; omega)).trans (wP_c7 (gA_P g))
theorem wP_c8 (g : gP h pl) : (wP h pl Q)[(pl + 8)]? = some (ia 4 (Q 8)) := (ov_in (cs := plc pl Q) g.2 (by show _ < 22; decide)).trans rfl
theorem wAr_p8 (g : gA h pl t) : (wAr h pl t Q A)[(pl + 8)]? = some (ia 4 (Q 8)) := (ov_lo (by have := g.2.1; omega)).trans (wP_c8 (gA_P g))
theorem wP_c9 (g : gP h pl) : (wP h pl Q)[(pl + 9)]? = some (ia 3 (Q 9)) := (ov_in (cs := plc pl Q) g.2 (by show _ < 22; decide)).trans rfl
theorem wAr_p9 (g : gA h pl t) : (wAr h pl t Q A)[(pl + 9)]? = some (ia 3 (Q 9)) := (ov_lo (by have := g.2.1; omega)).trans (wP_c9 (gA_P g))
theorem wP_c10 (g : gP h pl) : (wP h pl Q)[(pl + 10)]? = some (ia 3 (Q 10)) := (ov_in (cs := plc pl Q) g.2 (by show _ < 22; decide)).trans rfl
theorem wAr_p10 (g : gA h pl t) : (wAr h pl t Q A)[(pl + 10)]? = some (ia 3 (Q 10)) := (ov_lo (by have := g.2.1; omega)).trans (wP_c10 (gA_P g))
theorem wP_c11 (g : gP h pl) : (wP h pl Q)[(pl + 11)]? = some (ia 3 (Q 11)) := (ov_in (cs := plc pl Q) g.2 (by show _ < 22; decide)).trans rfl
theorem wAr_p11 (g : gA h pl t) : (wAr h pl t Q A)[(pl + 11)]? = some (ia 3 (Q 11)) := (ov_lo (by have := g.2.1; omega)).trans (wP_c11 (gA_P g))
theorem wP_c12 (g : gP h pl) : (wP h pl Q)[(pl + 12)]? = some (ia 3 (Q 12)) := (ov_in (cs := plc pl Q) g.2 (by show _ < 22; decide)).trans rfl
theorem wAr_p12 (g : gA h pl t) : (wAr h pl t Q A)[(pl + 12)]? = some (ia 3 (Q 12)) := (ov_lo (by have := g.2.1; omega)).trans (wP_c12 (gA_P g))
theorem wP_c13 (g : gP h pl) : (wP h pl Q)[(pl + 13)]? = some (ia 3 (Q 13)) := (ov_in (cs := plc pl Q) g.2 (by show _ < 22; decide)).trans rfl
theorem wAr_p13 (g : gA h pl t) : (wAr h pl t Q A)[(pl + 13)]? = some (ia 3 (Q 13)) := (ov_lo (by have := g.2.1; omega)).trans (wP_c13 (gA_P g))
theorem wP_c14 (g : gP h pl) : (wP h pl Q)[(pl + 14)]? = some (.inr (1, [.int (Q 0 5), .ref (pl + 15), .ref (pl + 16), .ref (pl + 17), .ref (pl + 18), .ref (pl + 19), .int (Q 0 6), .ref (pl + 20), .ref (pl + 21)])) := (ov_in (cs := plc pl Q) g.2 (by show _ < 22; decide)).trans rfl
theorem wAr_p14 (g : gA h pl t) : (wAr h pl t Q A)[(pl + 14)]? = some (.inr (1, [.int (Q 0 5), .ref (pl + 15), .ref (pl + 16), .ref (pl + 17), .ref (pl + 18), .ref (pl + 19), .int (Q 0 6), .ref (pl + 20), .ref (pl + 21)])) := (ov_lo (by have := g.2.1; omega)).trans (wP_c14 (gA_P g))
theorem wP_c15 (g : gP h pl) : (wP h pl Q)[(pl + 15)]? = some (ia 16 (Q 15)) := (ov_in (cs := plc pl Q) g.2 (by show _ < 22; decide)).trans rfl
theorem wAr_p15 (g : gA h pl t) : (wAr h pl t Q A)[(pl + 15)]? = some (ia 16 (Q 15)) := (ov_lo (by have := g.2.1; omega)).trans (wP_c15 (gA_P g))
theorem wP_c16 (g : gP h pl) : (wP h pl Q)[(pl + 16)]? = some (ia 16 (Q 16)) := (ov_in (cs := plc pl Q) g.2 (by show _ < 22; decide)).trans rfl
theorem wAr_p16 (g : gA h pl t) : (wAr h pl t Q A)[(pl + 16)]? = some (ia 16 (Q 16)) := (ov_lo (by have := g.2.1; omega)).trans (wP_c16 (gA_P g))
theorem wP_c17 (g : gP h pl) : (wP h pl Q)[(pl + 17)]? = some (ia 16 (Q 17)) := (ov_in (cs := plc pl Q) g.2 (by show _ < 22; decide)).trans rfl
theorem wAr_p17 (g : gA h pl t) : (wAr h pl t Q A)[(pl + 17)]? = some (ia 16 (Q 17)) := (ov_lo (by have := g.2.1; omega)).trans (wP_c17 (gA_P g))
theorem wP_c18 (g : gP h pl) : (wP h pl Q)[(pl + 18)]? = some (ia 16 (Q 18)) := (ov_in (cs := plc pl Q) g.2 (by show _ < 22; decide)).trans rfl
theorem wAr_p18 (g : gA h pl t) : (wAr h pl t Q A)[(pl + 18)]? = some (ia 16 (Q 18)) := (ov_lo (by have := g.2.1; omega)).trans (wP_c18 (gA_P g))
theorem wP_c19 (g : gP h pl) : (wP h pl Q)[(pl + 19)]? = some (ia 16 (Q 19)) := (ov_in (cs := plc pl Q) g.2 (by show _ < 22; decide)).trans rfl
theorem wAr_p19 (g : gA h pl t) : (wAr h pl t Q A)[(pl + 19)]? = some (ia 16 (Q 19)) := (ov_lo (by have := g.2.1; omega)).trans (wP_c19 (gA_P g))
theorem wP_c20 (g : gP h pl) : (wP h pl Q)[(pl + 20)]? = some (ia 400 (Q 20)) := (ov_in (cs := plc pl Q) g.2 (by show _ < 22; decide)).trans rfl
theorem wAr_p20 (g : gA h pl t) : (wAr h pl t Q A)[(pl + 20)]? = some (ia 400 (Q 20)) := (ov_lo (by have := g.2.1; omega)).trans (wP_c20 (gA_P g))
theorem wP_c21 (g : gP h pl) : (wP h pl Q)[(pl + 21)]? = some (ia 400 (Q 21)) := (ov_in (cs := plc pl Q) g.2 (by show _ < 22; decide)).trans rfl
theorem wAr_p21 (g : gA h pl t) : (wAr h pl t Q A)[(pl + 21)]? = some (ia 400 (Q 21)) := (ov_lo (by have := g.2.1; omega)).trans (wP_c21 (gA_P g))
theorem wAr_c0 (g : gA h pl t) : (wAr h pl t Q A)[t]? = some (.inr (0, [.ref pl, .int (A 0 0), .int (A 0 1), .int (A 0 2), .int (A 0 3), .ref (t + 1), .ref (t + 2), .ref (t + 3), .ref (t + 4), .ref (t + 5), .ref (t + 6), .ref (t + 7), .ref (t + 8), .ref (t + 9), .int (A 0 4)])) := (ov_in0 (cs := arc t pl A) (by rw [wP_len]; exact g.2.2) (by show _ < 10; decide)).trans rfl
theorem wAr_c1 (g : gA h pl t) : (wAr h pl t Q A)[(t + 1)]? = some (ia 40 (A 1)) := (ov_in (cs := arc t pl A) (by rw [wP_len]; exact g.2.2) (by show _ < 10; decide)).trans rfl
theorem wAr_c2 (g : gA h pl t) : (wAr h pl t Q A)[(t + 2)]? = some (ia 40 (A 2)) := (ov_in (cs := arc t pl A) (by rw [wP_len]; exact g.2.2) (by show _ < 10; decide)).trans rfl
theorem wAr_c3 (g : gA h pl t) : (wAr h pl t Q A)[(t + 3)]? = some (ia 40 (A 3)) := (ov_in (cs := arc t pl A) (by rw [wP_len]; exact g.2.2) (by show _ < 10; decide)).trans rfl
theorem wAr_c4 (g : gA h pl t) : (wAr h pl t Q A)[(t + 4)]? = some (ia 3 (A 4)) := (ov_in (cs := arc t pl A) (by rw [wP_len]; exact g.2.2) (by show _ < 10; decide)).trans rfl
theorem wAr_c5 (g : gA h pl t) : (wAr h pl t Q A)[(t + 5)]? = some (ia 3 (A 5)) := (ov_in (cs := arc t pl A) (by rw [wP_len]; exact g.2.2) (by show _ < 10; decide)).trans rfl
theorem wAr_c6 (g : gA h pl t) : (wAr h pl t Q A)[(t + 6)]? = some (ia 3 (A 6)) := (ov_in (cs := arc t pl A) (by rw [wP_len]; exact g.2.2) (by show _ < 10; decide)).trans rfl
theorem wAr_c7 (g : gA h pl t) : (wAr h pl t Q A)[(t + 7)]? = some (ia 3 (A 7)) := (ov_in (cs := arc t pl A) (by rw [wP_len]; exact g.2.2) (by show _ < 10; decide)).trans rfl
theorem wAr_c8 (g : gA h pl t) : (wAr h pl t Q A)[(t + 8)]? = some (ia 3 (A 8)) := (ov_in (cs := arc t pl A) (by rw [wP_len]; exact g.2.2) (by show _ < 10; decide)).trans rfl
theorem wAr_c9 (g : gA h pl t) : (wAr h pl t Q A)[(t + 9)]? = some (ia 400 (A 9)) := (ov_in (cs := arc t pl A) (by rw [wP_len]; exact g.2.2) (by show _ < 10; decide)).trans rfl
theorem rPp0 {ty : FieldType} {fin : Bool} {X : Option String} (g : gP h pl) : rF (ixP fv) (wP h pl Q) pl (2, 0, ty, fin, X) = some (.int (Q 0 0)) := rF_of (wP_c0 g) g.1 rfl
theorem rPp1 {ty : FieldType} {fin : Bool} {X : Option String} (g : gP h pl) : rF (ixP fv) (wP h pl Q) pl (2, 1, ty, fin, X) = some (.ref (pl + 1)) := rF_of (wP_c0 g) g.1 rfl
theorem rPp2 {ty : FieldType} {fin : Bool} {X : Option String} (g : gP h pl) : rF (ixP fv) (wP h pl Q) pl (2, 2, ty, fin, X) = some (.ref (pl + 2)) := rF_of (wP_c0 g) g.1 rfl
theorem rPp3 {ty : FieldType} {fin : Bool} {X : Option String} (g : gP h pl) : rF (ixP fv) (wP h pl Q) pl (2, 3, ty, fin, X) = some (.ref (pl + 3)) := rF_of (wP_c0 g) g.1 rfl
theorem rPp4 {ty : FieldType} {fin : Bool} {X : Option String} (g : gP h pl) : rF (ixP fv) (wP h pl Q) pl (2, 4, ty, fin, X) = some (.int (Q 0 1)) := rF_of (wP_c0 g) g.1 rfl
theorem rPp5 {ty : FieldType} {fin : Bool} {X : Option String} (g : gP h pl) : rF (ixP fv) (wP h pl Q) pl (2, 5, ty, fin, X) = some (.ref (pl + 4)) := rF_of (wP_c0 g) g.1 rfl
theorem rPp6 {ty : FieldType} {fin : Bool} {X : Option String} (g : gP h pl) : rF (ixP fv) (wP h pl Q) pl (2, 6, ty, fin, X) = some (.int (Q 0 2)) := rF_of (wP_c0 g) g.1 rfl
theorem rPp7 {ty : FieldType} {fin : Bool} {X : Option String} (g : gP h pl) : rF (ixP fv) (wP h pl Q) pl (2, 7, ty, fin, X) = some (.ref (pl + 5)) := rF_of (wP_c0 g) g.1 rfl
theorem rPp8 {ty : FieldType} {fin : Bool} {X : Option String} (g : gP h pl) : rF (ixP fv) (wP h pl Q) pl (2, 8, ty, fin, X) = some (.ref (pl + 6)) := rF_of (wP_c0 g) g.1 rfl
theorem rPp9 {ty : FieldType} {fin : Bool} {X : Option String} (g : gP h pl) : rF (ixP fv) (wP h pl Q) pl (2, 9, ty, fin, X) = some (.ref (pl + 7)) := rF_of (wP_c0 g) g.1 rfl
theorem rPp10 {ty : FieldType} {fin : Bool} {X : Option String} (g : gP h pl) : rF (ixP fv) (wP h pl Q) pl (2, 10, ty, fin, X) = some (.ref (pl + 8)) := rF_of (wP_c0 g) g.1 rfl
theorem rPp11 {ty : FieldType} {fin : Bool} {X : Option String} (g : gP h pl) : rF (ixP fv) (wP h pl Q) pl (2, 11, ty, fin, X) = some (.int (Q 0 3)) := rF_of (wP_c0 g) g.1 rfl
theorem rPp12 {ty : FieldType} {fin : Bool} {X : Option String} (g : gP h pl) : rF (ixP fv) (wP h pl Q) pl (2, 12, ty, fin, X) = some (.ref (pl + 9)) := rF_of (wP_c0 g) g.1 rfl
theorem rPp13 {ty : FieldType} {fin : Bool} {X : Option String} (g : gP h pl) : rF (ixP fv) (wP h pl Q) pl (2, 13, ty, fin, X) = some (.ref (pl + 10)) := rF_of (wP_c0 g) g.1 rfl
theorem rPp14 {ty : FieldType} {fin : Bool} {X : Option String} (g : gP h pl) : rF (ixP fv) (wP h pl Q) pl (2, 14, ty, fin, X) = some (.ref (pl + 11)) := rF_of (wP_c0 g) g.1 rfl
theorem rPp15 {ty : FieldType} {fin : Bool} {X : Option String} (g : gP h pl) : rF (ixP fv) (wP h pl Q) pl (2, 15, ty, fin, X) = some (.int (Q 0 4)) := rF_of (wP_c0 g) g.1 rfl
theorem rPp16 {ty : FieldType} {fin : Bool} {X : Option String} (g : gP h pl) : rF (ixP fv) (wP h pl Q) pl (2, 16, ty, fin, X) = some (.ref (pl + 12)) := rF_of (wP_c0 g) g.1 rfl
theorem rPp17 {ty : FieldType} {fin : Bool} {X : Option String} (g : gP h pl) : rF (ixP fv) (wP h pl Q) pl (2, 17, ty, fin, X) = some (.ref (pl + 13)) := rF_of (wP_c0 g) g.1 rfl
theorem rPp18 {ty : FieldType} {fin : Bool} {X : Option String} (g : gP h pl) : rF (ixP fv) (wP h pl Q) pl (2, 18, ty, fin, X) = some (.ref (pl + 14)) := rF_of (wP_c0 g) g.1 rfl
theorem rPo0 {ty : FieldType} {fin : Bool} {X : Option String} (g : gP h pl) : rF (ixP fv) (wP h pl Q) (pl + 14) (1, 0, ty, fin, X) = some (.int (Q 0 5)) := rF_of (wP_c14 g) (Nat.le_trans g.1 (Nat.le_add_right pl 14)) rfl
theorem rPo1 {ty : FieldType} {fin : Bool} {X : Option String} (g : gP h pl) : rF (ixP fv) (wP h pl Q) (pl + 14) (1, 1, ty, fin, X) = some (.ref (pl + 15)) := rF_of (wP_c14 g) (Nat.le_trans g.1 (Nat.le_add_right pl 14)) rfl
theorem rPo2 {ty : FieldType} {fin : Bool} {X : Option String} (g : gP h pl) : rF (ixP fv) (wP h pl Q) (pl + 14) (1, 2, ty, fin, X) = some (.ref (pl + 16)) := rF_of (wP_c14 g) (Nat.le_trans g.1 (Nat.le_add_right pl 14)) rfl
theorem rPo3 {ty : FieldType} {fin : Bool} {X : Option String} (g : gP h pl) : rF (ixP fv) (wP h pl Q) (pl + 14) (1, 3, ty, fin, X) = some (.ref (pl + 17)) := rF_of (wP_c14 g) (Nat.le_trans g.1 (Nat.le_add_right pl 14)) rfl
theorem rPo4 {ty : FieldType} {fin : Bool} {X : Option String} (g : gP h pl) : rF (ixP fv) (wP h pl Q) (pl + 14) (1, 4, ty, fin, X) = some (.ref (pl + 18)) := rF_of (wP_c14 g) (Nat.le_trans g.1 (Nat.le_add_right pl 14)) rfl
theorem rPo5 {ty : FieldType} {fin : Bool} {X : Option String} (g : gP h pl) : rF (ixP fv) (wP h pl Q) (pl + 14) (1, 5, ty, fin, X) = some (.ref (pl + 19)) := rF_of (wP_c14 g) (Nat.le_trans g.1 (Nat.le_add_right pl 14)) rfl
theorem rPo6 {ty : FieldType} {fin : Bool} {X : Option String} (g : gP h pl) : rF (ixP fv) (wP h pl Q) (pl + 14) (1, 6, ty, fin, X) = some (.int (Q 0 6)) := rF_of (wP_c14 g) (Nat.le_trans g.1 (Nat.le_add_right pl 14)) rfl
theorem rPo7 {ty : FieldType} {fin : Bool} {X : Option String} (g : gP h pl) : rF (ixP fv) (wP h pl Q) (pl + 14) (1, 7, ty, fin, X) = some (.ref (pl + 20)) := rF_of (wP_c14 g) (Nat.le_trans g.1 (Nat.le_add_right pl 14)) rfl
theorem rPo8 {ty : FieldType} {fin : Bool} {X : Option String} (g : gP h pl) : rF (ixP fv) (wP h pl Q) (pl + 14) (1, 8, ty, fin, X) = some (.ref (pl + 21)) := rF_of (wP_c14 g) (Nat.le_trans g.1 (Nat.le_add_right pl 14)) rfl
theorem rAp0 {ty : FieldType} {fin : Bool} {X : Option String} (g : gA h pl t) : rF (ixP fv) (wAr h pl t Q A) pl (2, 0, ty, fin, X) = some (.int (Q 0 0)) := rF_of (wAr_p0 g) g.1 rfl
theorem rAp1 {ty : FieldType} {fin : Bool} {X : Option String} (g : gA h pl t) : rF (ixP fv) (wAr h pl t Q A) pl (2, 1, ty, fin, X) = some (.ref (pl + 1)) := rF_of (wAr_p0 g) g.1 rfl
theorem rAp2 {ty : FieldType} {fin : Bool} {X : Option String} (g : gA h pl t) : rF (ixP fv) (wAr h pl t Q A) pl (2, 2, ty, fin, X) = some (.ref (pl + 2)) := rF_of (wAr_p0 g) g.1 rfl
theorem rAp3 {ty : FieldType} {fin : Bool} {X : Option String} (g : gA h pl t) : rF (ixP fv) (wAr h pl t Q A) pl (2, 3, ty, fin, X) = some (.ref (pl + 3)) := rF_of (wAr_p0 g) g.1 rfl
theorem rAp4 {ty : FieldType} {fin : Bool} {X : Option String} (g : gA h pl t) : rF (ixP fv) (wAr h pl t Q A) pl (2, 4, ty, fin, X) = some (.int (Q 0 1)) := rF_of (wAr_p0 g) g.1 rfl
theorem rAp5 {ty : FieldType} {fin : Bool} {X : Option String} (g : gA h pl t) : rF (ixP fv) (wAr h pl t Q A) pl (2, 5, ty, fin, X) = some (.ref (pl + 4)) := rF_of (wAr_p0 g) g.1 rfl
theorem rAp6 {ty : FieldType} {fin : Bool} {X : Option String} (g : gA h pl t) : rF (ixP fv) (wAr h pl t Q A) pl (2, 6, ty, fin, X) = some (.int (Q 0 2)) := rF_of (wAr_p0 g) g.1 rfl
theorem rAp7 {ty : FieldType} {fin : Bool} {X : Option String} (g : gA h pl t) : rF (ixP fv) (wAr h pl t Q A) pl (2, 7, ty, fin, X) = some (.ref (pl + 5)) := rF_of (wAr_p0 g) g.1 rfl
theorem rAp8 {ty : FieldType} {fin : Bool} {X : Option String} (g : gA h pl t) : rF (ixP fv) (wAr h pl t Q A) pl (2, 8, ty, fin, X) = some (.ref (pl + 6)) := rF_of (wAr_p0 g) g.1 rfl
theorem rAp9 {ty : FieldType} {fin : Bool} {X : Option String} (g : gA h pl t) : rF (ixP fv) (wAr h pl t Q A) pl (2, 9, ty, fin, X) = some (.ref (pl + 7)) := rF_of (wAr_p0 g) g.1 rfl
theorem rAp10 {ty : FieldType} {fin : Bool} {X : Option String} (g : gA h pl t) : rF (ixP fv) (wAr h pl t Q A) pl (2, 10, ty, fin, X) = some (.ref (pl + 8)) := rF_of (wAr_p0 g) g.1 rfl
theorem rAp11 {ty : FieldType} {fin : Bool} {X : Option String} (g : gA h pl t) : rF (ixP fv) (wAr h pl t Q A) pl (2, 11, ty, fin, X) = some (.int (Q 0 3)) := rF_of (wAr_p0 g) g.1 rfl
theorem rAp12 {ty : FieldType} {fin : Bool} {X : Option String} (g : gA h pl t) : rF (ixP fv) (wAr h pl t Q A) pl (2, 12, ty, fin, X) = some (.ref (pl + 9)) := rF_of (wAr_p0 g) g.1 rfl
theorem rAp13 {ty : FieldType} {fin : Bool} {X : Option String} (g : gA h pl t) : rF (ixP fv) (wAr h pl t Q A) pl (2, 13, ty, fin, X) = some (.ref (pl + 10)) := rF_of (wAr_p0 g) g.1 rfl
theorem rAp14 {ty : FieldType} {fin : Bool} {X : Option String} (g : gA h pl t) : rF (ixP fv) (wAr h pl t Q A) pl (2, 14, ty, fin, X) = some (.ref (pl + 11)) := rF_of (wAr_p0 g) g.1 rfl
theorem rAp15 {ty : FieldType} {fin : Bool} {X : Option String} (g : gA h pl t) : rF (ixP fv) (wAr h pl t Q A) pl (2, 15, ty, fin, X) = some (.int (Q 0 4)) := rF_of (wAr_p0 g) g.1 rfl
theorem rAp16 {ty : FieldType} {fin : Bool} {X : Option String} (g : gA h pl t) : rF (ixP fv) (wAr h pl t Q A) pl (2, 16, ty, fin, X) = some (.ref (pl + 12)) := rF_of (wAr_p0 g) g.1 rfl
theorem rAp17 {ty : FieldType} {fin : Bool} {X : Option String} (g : gA h pl t) : rF (ixP fv) (wAr h pl t Q A) pl (2, 17, ty, fin, X) = some (.ref (pl + 13)) := rF_of (wAr_p0 g) g.1 rfl
theorem rAp18 {ty : FieldType} {fin : Bool} {X : Option String} (g : gA h pl t) : rF (ixP fv) (wAr h pl t Q A) pl (2, 18, ty, fin, X) = some (.ref (pl + 14)) := rF_of (wAr_p0 g) g.1 rfl
theorem rAo0 {ty : FieldType} {fin : Bool} {X : Option String} (g : gA h pl t) : rF (ixP fv) (wAr h pl t Q A) (pl + 14) (1, 0, ty, fin, X) = some (.int (Q 0 5)) := rF_of (wAr_p14 g) (Nat.le_trans g.1 (Nat.le_add_right pl 14)) rfl
theorem rAo1 {ty : FieldType} {fin : Bool} {X : Option String} (g : gA h pl t) : rF (ixP fv) (wAr h pl t Q A) (pl + 14) (1, 1, ty, fin, X) = some (.ref (pl + 15)) := rF_of (wAr_p14 g) (Nat.le_trans g.1 (Nat.le_add_right pl 14)) rfl
theorem rAo2 {ty : FieldType} {fin : Bool} {X : Option String} (g : gA h pl t) : rF (ixP fv) (wAr h pl t Q A) (pl + 14) (1, 2, ty, fin, X) = some (.ref (pl + 16)) := rF_of (wAr_p14 g) (Nat.le_trans g.1 (Nat.le_add_right pl 14)) rfl
theorem rAo3 {ty : FieldType} {fin : Bool} {X : Option String} (g : gA h pl t) : rF (ixP fv) (wAr h pl t Q A) (pl + 14) (1, 3, ty, fin, X) = some (.ref (pl + 17)) := rF_of (wAr_p14 g) (Nat.le_trans g.1 (Nat.le_add_right pl 14)) rfl
theorem rAo4 {ty : FieldType} {fin : Bool} {X : Option String} (g : gA h pl t) : rF (ixP fv) (wAr h pl t Q A) (pl + 14) (1, 4, ty, fin, X) = some (.ref (pl + 18)) := rF_of (wAr_p14 g) (Nat.le_trans g.1 (Nat.le_add_right pl 14)) rfl
theorem rAo5 {ty : FieldType} {fin : Bool} {X : Option String} (g : gA h pl t) : rF (ixP fv) (wAr h pl t Q A) (pl + 14) (1, 5, ty, fin, X) = some (.ref (pl + 19)) := rF_of (wAr_p14 g) (Nat.le_trans g.1 (Nat.le_add_right pl 14)) rfl
theorem rAo6 {ty : FieldType} {fin : Bool} {X : Option String} (g : gA h pl t) : rF (ixP fv) (wAr h pl t Q A) (pl + 14) (1, 6, ty, fin, X) = some (.int (Q 0 6)) := rF_of (wAr_p14 g) (Nat.le_trans g.1 (Nat.le_add_right pl 14)) rfl
theorem rAo7 {ty : FieldType} {fin : Bool} {X : Option String} (g : gA h pl t) : rF (ixP fv) (wAr h pl t Q A) (pl + 14) (1, 7, ty, fin, X) = some (.ref (pl + 20)) := rF_of (wAr_p14 g) (Nat.le_trans g.1 (Nat.le_add_right pl 14)) rfl
theorem rAo8 {ty : FieldType} {fin : Bool} {X : Option String} (g : gA h pl t) : rF (ixP fv) (wAr h pl t Q A) (pl + 14) (1, 8, ty, fin, X) = some (.ref (pl + 21)) := rF_of (wAr_p14 g) (Nat.le_trans g.1 (Nat.le_add_right pl 14)) rfl
theorem rAa0 {ty : FieldType} {fin : Bool} {X : Option String} (g : gA h pl t) : rF (ixP fv) (wAr h pl t Q A) t (0, 0, ty, fin, X) = some (.ref pl) := rF_of (wAr_c0 g) (gA_le g) rfl
theorem rAa1 {ty : FieldType} {fin : Bool} {X : Option String} (g : gA h pl t) : rF (ixP fv) (wAr h pl t Q A) t (0, 1, ty, fin, X) = some (.int (A 0 0)) := rF_of (wAr_c0 g) (gA_le g) rfl
theorem rAa2 {ty : FieldType} {fin : Bool} {X : Option String} (g : gA h pl t) : rF (ixP fv) (wAr h pl t Q A) t (0, 2, ty, fin, X) = some (.int (A 0 1)) := rF_of (wAr_c0 g) (gA_le g) rfl
theorem rAa3 {ty : FieldType} {fin : Bool} {X : Option String} (g : gA h pl t) : rF (ixP fv) (wAr h pl t Q A) t (0, 3, ty, fin, X) = some (.int (A 0 2)) := rF_of (wAr_c0 g) (gA_le g) rfl
theorem rAa4 {ty : FieldType} {fin : Bool} {X : Option String} (g : gA h pl t) : rF (ixP fv) (wAr h pl t Q A) t (0, 4, ty, fin, X) = some (.int (A 0 3)) := rF_of (wAr_c0 g) (gA_le g) rfl
theorem rAa5 {ty : FieldType} {fin : Bool} {X : Option String} (g : gA h pl t) : rF (ixP fv) (wAr h pl t Q A) t (0, 5, ty, fin, X) = some (.ref (t + 1)) := rF_of (wAr_c0 g) (gA_le g) rfl
theorem rAa6 {ty : FieldType} {fin : Bool} {X : Option String} (g : gA h pl t) : rF (ixP fv) (wAr h pl t Q A) t (0, 6, ty, fin, X) = some (.ref (t + 2)) := rF_of (wAr_c0 g) (gA_le g) rfl
theorem rAa7 {ty : FieldType} {fin : Bool} {X : Option String} (g : gA h pl t) : rF (ixP fv) (wAr h pl t Q A) t (0, 7, ty, fin, X) = some (.ref (t + 3)) := rF_of (wAr_c0 g) (gA_le g) rfl
theorem rAa8 {ty : FieldType} {fin : Bool} {X : Option String} (g : gA h pl t) : rF (ixP fv) (wAr h pl t Q A) t (0, 8, ty, fin, X) = some (.ref (t + 4)) := rF_of (wAr_c0 g) (gA_le g) rfl
theorem rAa9 {ty : FieldType} {fin : Bool} {X : Option String} (g : gA h pl t) : rF (ixP fv) (wAr h pl t Q A) t (0, 9, ty, fin, X) = some (.ref (t + 5)) := rF_of (wAr_c0 g) (gA_le g) rfl
theorem rAa10 {ty : FieldType} {fin : Bool} {X : Option String} (g : gA h pl t) : rF (ixP fv) (wAr h pl t Q A) t (0, 10, ty, fin, X) = some (.ref (t + 6)) := rF_of (wAr_c0 g) (gA_le g) rfl
theorem rAa11 {ty : FieldType} {fin : Bool} {X : Option String} (g : gA h pl t) : rF (ixP fv) (wAr h pl t Q A) t (0, 11, ty, fin, X) = some (.ref (t + 7)) := rF_of (wAr_c0 g) (gA_le g) rfl
theorem rAa12 {ty : FieldType} {fin : Bool} {X : Option String} (g : gA h pl t) : rF (ixP fv) (wAr h pl t Q A) t (0, 12, ty, fin, X) = some (.ref (t + 8)) := rF_of (wAr_c0 g) (gA_le g) rfl
theorem rAa13 {ty : FieldType} {fin : Bool} {X : Option String} (g : gA h pl t) : rF (ixP fv) (wAr h pl t Q A) t (0, 13, ty, fin, X) = some (.ref (t + 9)) := rF_of (wAr_c0 g) (gA_le g) rfl
theorem rAa14 {ty : FieldType} {fin : Bool} {X : Option String} (g : gA h pl t) : rF (ixP fv) (wAr h pl t Q A) t (0, 14, ty, fin, X) = some (.int (A 0 4)) := rF_of (wAr_c0 g) (gA_le g) rfl
theorem wPp0 {X : Option String} {ini : Bool} {v : Int32} (g : gP h pl) : wF (ixP fv) (wP h pl Q) pl (2, 0, .int, false, X) ini (.int v) = some (wP h pl (sm Q 0 0 v)) := (wF_of (wP_c0 g) g.1 (by show _ < 19; decide) rfl (Or.inl rfl)).trans (congrArg some ((ov_set0 (cs := plc pl Q) (by show _ < 22; decide)).trans rfl))
theorem wPp4 {X : Option String} {ini : Bool} {v : Int32} (g : gP h pl) : wF (ixP fv) (wP h pl Q) pl (2, 4, .int, false, X) ini (.int v) = some (wP h pl (sm Q 0 1 v)) := (wF_of (wP_c0 g) g.1 (by show _ < 19; decide) rfl (Or.inl rfl)).trans (congrArg some ((ov_set0 (cs := plc pl Q) (by show _ < 22; decide)).trans rfl))
theorem wPp6 {X : Option String} {ini : Bool} {v : Int32} (g : gP h pl) : wF (ixP fv) (wP h pl Q) pl (2, 6, .int, false, X) ini (.int v) = some (wP h pl (sm Q 0 2 v)) := (wF_of (wP_c0 g) g.1 (by show _ < 19; decide) rfl (Or.inl rfl)).trans (congrArg some ((ov_set0 (cs := plc pl Q) (by show _ < 22; decide)).trans rfl))
theorem wPp11 {X : Option String} {ini : Bool} {v : Int32} (g : gP h pl) : wF (ixP fv) (wP h pl Q) pl (2, 11, .int, false, X) ini (.int v) = some (wP h pl (sm Q 0 3 v)) := (wF_of (wP_c0 g) g.1 (by show _ < 19; decide) rfl (Or.inl rfl)).trans (congrArg some ((ov_set0 (cs := plc pl Q) (by show _ < 22; decide)).trans rfl))
theorem wPp15 {X : Option String} {ini : Bool} {v : Int32} (g : gP h pl) : wF (ixP fv) (wP h pl Q) pl (2, 15, .int, false, X) ini (.int v) = some (wP h pl (sm Q 0 4 v)) := (wF_of (wP_c0 g) g.1 (by show _ < 19; decide) rfl (Or.inl rfl)).trans (congrArg some ((ov_set0 (cs := plc pl Q) (by show _ < 22; decide)).trans rfl))
theorem wPo0 {X : Option String} {ini : Bool} {v : Int32} (g : gP h pl) : wF (ixP fv) (wP h pl Q) (pl + 14) (1, 0, .int, false, X) ini (.int v) = some (wP h pl (sm Q 0 5 v)) := (wF_of (wP_c14 g) (Nat.le_trans g.1 (Nat.le_add_right pl 14)) (by show _ < 9; decide) rfl (Or.inl rfl)).trans (congrArg some ((ov_set (cs := plc pl Q) (by show _ < 22; decide)).trans rfl))
theorem wPo6 {X : Option String} {ini : Bool} {v : Int32} (g : gP h pl) : wF (ixP fv) (wP h pl Q) (pl + 14) (1, 6, .int, false, X) ini (.int v) = some (wP h pl (sm Q 0 6 v)) := (wF_of (wP_c14 g) (Nat.le_trans g.1 (Nat.le_add_right pl 14)) (by show _ < 9; decide) rfl (Or.inl rfl)).trans (congrArg some ((ov_set (cs := plc pl Q) (by show _ < 22; decide)).trans rfl))
theorem wAra1 {X : Option String} {ini : Bool} {v : Int32} (g : gA h pl t) : wF (ixP fv) (wAr h pl t Q A) t (0, 1, .int, false, X) ini (.int v) = some (wAr h pl t Q (sm A 0 0 v)) := (wF_of (wAr_c0 g) (gA_le g) (by show _ < 15; decide) rfl (Or.inl rfl)).trans (congrArg some ((ov_set0 (cs := arc t pl A) (by show _ < 10; decide)).trans rfl))
theorem wAra2 {X : Option String} {ini : Bool} {v : Int32} (g : gA h pl t) : wF (ixP fv) (wAr h pl t Q A) t (0, 2, .int, false, X) ini (.int v) = some (wAr h pl t Q (sm A 0 1 v)) := (wF_of (wAr_c0 g) (gA_le g) (by show _ < 15; decide) rfl (Or.inl rfl)).trans (congrArg some ((ov_set0 (cs := arc t pl A) (by show _ < 10; decide)).trans rfl))
theorem wAra3 {X : Option String} {ini : Bool} {v : Int32} (g : gA h pl t) : wF (ixP fv) (wAr h pl t Q A) t (0, 3, .int, false, X) ini (.int v) = some (wAr h pl t Q (sm A 0 2 v)) := (wF_of (wAr_c0 g) (gA_le g) (by show _ < 15; decide) rfl (Or.inl rfl)).trans (congrArg some ((ov_set0 (cs := arc t pl A) (by show _ < 10; decide)).trans rfl))
theorem wAra4 {X : Option String} {ini : Bool} {v : Int32} (g : gA h pl t) : wF (ixP fv) (wAr h pl t Q A) t (0, 4, .int, false, X) ini (.int v) = some (wAr h pl t Q (sm A 0 3 v)) := (wF_of (wAr_c0 g) (gA_le g) (by show _ < 15; decide) rfl (Or.inl rfl)).trans (congrArg some ((ov_set0 (cs := arc t pl A) (by show _ < 10; decide)).trans rfl))
theorem wAra14 {X : Option String} {ini : Bool} {v : Int32} (g : gA h pl t) : wF (ixP fv) (wAr h pl t Q A) t (0, 14, .int, false, X) ini (.int v) = some (wAr h pl t Q (sm A 0 4 v)) := (wF_of (wAr_c0 g) (gA_le g) (by show _ < 15; decide) rfl (Or.inl rfl)).trans (congrArg some ((ov_set0 (cs := arc t pl A) (by show _ < 10; decide)).trans rfl))
theorem iP1 (g : gP h pl) : isI (wP h pl Q) (pl + 1) = true := by unfold isI; rw [wP_c1 g]; rfl
theorem cP1 {i : Int32} (g : gP h pl) : cl (wP h pl Q) (pl + 1) i = ca 5 (Q 1) i := by unfold cl; rw [wP_c1 g]; rfl
theorem pP1 {i v : Int32} (g : gP h pl) : pt (wP h pl Q) (pl + 1) i v = wP h pl (sp Q 1 5 i v) := by
  unfold pt; rw [wP_c1 g]; unfold ia sp; dsimp only; split
  · exact (ov_set (cs := plc pl Q) (by show _ < 22; decide)).trans rfl
  · rfl
theorem iAp1 (g : gA h pl t) : isI (wAr h pl t Q A) (pl + 1) = true := by unfold isI; rw [wAr_p1 g]; rfl
theorem cAp1 {i : Int32} (g : gA h pl t) : cl (wAr h pl t Q A) (pl + 1) i = ca 5 (Q 1) i := by unfold cl; rw [wAr_p1 g]; rfl
theorem iP2 (g : gP h pl) : isI (wP h pl Q) (pl + 2) = true := by unfold isI; rw [wP_c2 g]; rfl
theorem cP2 {i : Int32} (g : gP h pl) : cl (wP h pl Q) (pl + 2) i = ca 5 (Q 2) i := by unfold cl; rw [wP_c2 g]; rfl
theorem pP2 {i v : Int32} (g : gP h pl) : pt (wP h pl Q) (pl + 2) i v = wP h pl (sp Q 2 5 i v) := by
  unfold pt; rw [wP_c2 g]; unfold ia sp; dsimp only; split
  · exact (ov_set (cs := plc pl Q) (by show _ < 22; decide)).trans rfl
  · rfl
theorem iAp2 (g : gA h pl t) : isI (wAr h pl t Q A) (pl + 2) = true := by unfold isI; rw [wAr_p2 g]; rfl
theorem cAp2 {i : Int32} (g : gA h pl t) : cl (wAr h pl t Q A) (pl + 2) i = ca 5 (Q 2) i := by unfold cl; rw [wAr_p2 g]; rfl
theorem iP3 (g : gP h pl) : isI (wP h pl Q) (pl + 3) = true := by unfold isI; rw [wP_c3 g]; rfl
theorem cP3 {i : Int32} (g : gP h pl) : cl (wP h pl Q) (pl + 3) i = ca 5 (Q 3) i := by unfold cl; rw [wP_c3 g]; rfl
theorem pP3 {i v : Int32} (g : gP h pl) : pt (wP h pl Q) (pl + 3) i v = wP h pl (sp Q 3 5 i v) := by
  unfold pt; rw [wP_c3 g]; unfold ia sp; dsimp only; split
  · exact (ov_set (cs := plc pl Q) (by show _ < 22; decide)).trans rfl
  · rfl
theorem iAp3 (g : gA h pl t) : isI (wAr h pl t Q A) (pl + 3) = true := by unfold isI; rw [wAr_p3 g]; rfl
theorem cAp3 {i : Int32} (g : gA h pl t) : cl (wAr h pl t Q A) (pl + 3) i = ca 5 (Q 3) i := by unfold cl; rw [wAr_p3 g]; rfl
theorem iP4 (g : gP h pl) : isI (wP h pl Q) (pl + 4) = true := by unfold isI; rw [wP_c4 g]; rfl
theorem cP4 {i : Int32} (g : gP h pl) : cl (wP h pl Q) (pl + 4) i = ca 40 (Q 4) i := by unfold cl; rw [wP_c4 g]; rfl
theorem pP4 {i v : Int32} (g : gP h pl) : pt (wP h pl Q) (pl + 4) i v = wP h pl (sp Q 4 40 i v) := by
  unfold pt; rw [wP_c4 g]; unfold ia sp; dsimp only; split
  · exact (ov_set (cs := plc pl Q) (by show _ < 22; decide)).trans rfl
  · rfl
theorem iAp4 (g : gA h pl t) : isI (wAr h pl t Q A) (pl + 4) = true := by unfold isI; rw [wAr_p4 g]; rfl
theorem cAp4 {i : Int32} (g : gA h pl t) : cl (wAr h pl t Q A) (pl + 4) i = ca 40 (Q 4) i := by unfold cl; rw [wAr_p4 g]; rfl
theorem iP5 (g : gP h pl) : isI (wP h pl Q) (pl + 5) = true := by unfold isI; rw [wP_c5 g]; rfl
theorem cP5 {i : Int32} (g : gP h pl) : cl (wP h pl Q) (pl + 5) i = ca 4 (Q 5) i := by unfold cl; rw [wP_c5 g]; rfl
theorem pP5 {i v : Int32} (g : gP h pl) : pt (wP h pl Q) (pl + 5) i v = wP h pl (sp Q 5 4 i v) := by
  unfold pt; rw [wP_c5 g]; unfold ia sp; dsimp only; split
  · exact (ov_set (cs := plc pl Q) (by show _ < 22; decide)).trans rfl
  · rfl
theorem iAp5 (g : gA h pl t) : isI (wAr h pl t Q A) (pl + 5) = true := by unfold isI; rw [wAr_p5 g]; rfl
theorem cAp5 {i : Int32} (g : gA h pl t) : cl (wAr h pl t Q A) (pl + 5) i = ca 4 (Q 5) i := by unfold cl; rw [wAr_p5 g]; rfl
theorem iP6 (g : gP h pl) : isI (wP h pl Q) (pl + 6) = true := by unfold isI; rw [wP_c6 g]; rfl
theorem cP6 {i : Int32} (g : gP h pl) : cl (wP h pl Q) (pl + 6) i = ca 4 (Q 6) i := by unfold cl; rw [wP_c6 g]; rfl
theorem pP6 {i v : Int32} (g : gP h pl) : pt (wP h pl Q) (pl + 6) i v = wP h pl (sp Q 6 4 i v) := by
  unfold pt; rw [wP_c6 g]; unfold ia sp; dsimp only; split
  · exact (ov_set (cs := plc pl Q) (by show _ < 22; decide)).trans rfl
  · rfl
theorem iAp6 (g : gA h pl t) : isI (wAr h pl t Q A) (pl + 6) = true := by unfold isI; rw [wAr_p6 g]; rfl
theorem cAp6 {i : Int32} (g : gA h pl t) : cl (wAr h pl t Q A) (pl + 6) i = ca 4 (Q 6) i := by unfold cl; rw [wAr_p6 g]; rfl
theorem iP7 (g : gP h pl) : isI (wP h pl Q) (pl + 7) = true := by unfold isI; rw [wP_c7 g]; rfl
theorem cP7 {i : Int32} (g : gP h pl) : cl (wP h pl Q) (pl + 7) i = ca 4 (Q 7) i := by unfold cl; rw [wP_c7 g]; rfl
theorem pP7 {i v : Int32} (g : gP h pl) : pt (wP h pl Q) (pl + 7) i v = wP h pl (sp Q 7 4 i v) := by
  unfold pt; rw [wP_c7 g]; unfold ia sp; dsimp only; split
  · exact (ov_set (cs := plc pl Q) (by show _ < 22; decide)).trans rfl
  · rfl
theorem iAp7 (g : gA h pl t) : isI (wAr h pl t Q A) (pl + 7) = true := by unfold isI; rw [wAr_p7 g]; rfl
theorem cAp7 {i : Int32} (g : gA h pl t) : cl (wAr h pl t Q A) (pl + 7) i = ca 4 (Q 7) i := by unfold cl; rw [wAr_p7 g]; rfl
theorem iP8 (g : gP h pl) : isI (wP h pl Q) (pl + 8) = true := by unfold isI; rw [wP_c8 g]; rfl
theorem cP8 {i : Int32} (g : gP h pl) : cl (wP h pl Q) (pl + 8) i = ca 4 (Q 8) i := by unfold cl; rw [wP_c8 g]; rfl
theorem pP8 {i v : Int32} (g : gP h pl) : pt (wP h pl Q) (pl + 8) i v = wP h pl (sp Q 8 4 i v) := by
  unfold pt; rw [wP_c8 g]; unfold ia sp; dsimp only; split
  · exact (ov_set (cs := plc pl Q) (by show _ < 22; decide)).trans rfl
  · rfl
theorem iAp8 (g : gA h pl t) : isI (wAr h pl t Q A) (pl + 8) = true := by unfold isI; rw [wAr_p8 g]; rfl
theorem cAp8 {i : Int32} (g : gA h pl t) : cl (wAr h pl t Q A) (pl + 8) i = ca 4 (Q 8) i := by unfold cl; rw [wAr_p8 g]; rfl
theorem iP9 (g : gP h pl) : isI (wP h pl Q) (pl + 9) = true := by unfold isI; rw [wP_c9 g]; rfl
theorem cP9 {i : Int32} (g : gP h pl) : cl (wP h pl Q) (pl + 9) i = ca 3 (Q 9) i := by unfold cl; rw [wP_c9 g]; rfl
theorem pP9 {i v : Int32} (g : gP h pl) : pt (wP h pl Q) (pl + 9) i v = wP h pl (sp Q 9 3 i v) := by
  unfold pt; rw [wP_c9 g]; unfold ia sp; dsimp only; split
  · exact (ov_set (cs := plc pl Q) (by show _ < 22; decide)).trans rfl
  · rfl
theorem iAp9 (g : gA h pl t) : isI (wAr h pl t Q A) (pl + 9) = true := by unfold isI; rw [wAr_p9 g]; rfl
theorem cAp9 {i : Int32} (g : gA h pl t) : cl (wAr h pl t Q A) (pl + 9) i = ca 3 (Q 9) i := by unfold cl; rw [wAr_p9 g]; rfl
theorem iP10 (g : gP h pl) : isI (wP h pl Q) (pl + 10) = true := by unfold isI; rw [wP_c10 g]; rfl
theorem cP10 {i : Int32} (g : gP h pl) : cl (wP h pl Q) (pl + 10) i = ca 3 (Q 10) i := by unfold cl; rw [wP_c10 g]; rfl
theorem pP10 {i v : Int32} (g : gP h pl) : pt (wP h pl Q) (pl + 10) i v = wP h pl (sp Q 10 3 i v) := by
  unfold pt; rw [wP_c10 g]; unfold ia sp; dsimp only; split
  · exact (ov_set (cs := plc pl Q) (by show _ < 22; decide)).trans rfl
  · rfl
theorem iAp10 (g : gA h pl t) : isI (wAr h pl t Q A) (pl + 10) = true := by unfold isI; rw [wAr_p10 g]; rfl
theorem cAp10 {i : Int32} (g : gA h pl t) : cl (wAr h pl t Q A) (pl + 10) i = ca 3 (Q 10) i := by unfold cl; rw [wAr_p10 g]; rfl
theorem iP11 (g : gP h pl) : isI (wP h pl Q) (pl + 11) = true := by unfold isI; rw [wP_c11 g]; rfl
theorem cP11 {i : Int32} (g : gP h pl) : cl (wP h pl Q) (pl + 11) i = ca 3 (Q 11) i := by unfold cl; rw [wP_c11 g]; rfl
theorem pP11 {i v : Int32} (g : gP h pl) : pt (wP h pl Q) (pl + 11) i v = wP h pl (sp Q 11 3 i v) := by
  unfold pt; rw [wP_c11 g]; unfold ia sp; dsimp only; split
  · exact (ov_set (cs := plc pl Q) (by show _ < 22; decide)).trans rfl
  · rfl
theorem iAp11 (g : gA h pl t) : isI (wAr h pl t Q A) (pl + 11) = true := by unfold isI; rw [wAr_p11 g]; rfl
theorem cAp11 {i : Int32} (g : gA h pl t) : cl (wAr h pl t Q A) (pl + 11) i = ca 3 (Q 11) i := by unfold cl; rw [wAr_p11 g]; rfl
theorem iP12 (g : gP h pl) : isI (wP h pl Q) (pl + 12) = true := by unfold isI; rw [wP_c12 g]; rfl
theorem cP12 {i : Int32} (g : gP h pl) : cl (wP h pl Q) (pl + 12) i = ca 3 (Q 12) i := by unfold cl; rw [wP_c12 g]; rfl
theorem pP12 {i v : Int32} (g : gP h pl) : pt (wP h pl Q) (pl + 12) i v = wP h pl (sp Q 12 3 i v) := by
  unfold pt; rw [wP_c12 g]; unfold ia sp; dsimp only; split
  · exact (ov_set (cs := plc pl Q) (by show _ < 22; decide)).trans rfl
  · rfl
theorem iAp12 (g : gA h pl t) : isI (wAr h pl t Q A) (pl + 12) = true := by unfold isI; rw [wAr_p12 g]; rfl
theorem cAp12 {i : Int32} (g : gA h pl t) : cl (wAr h pl t Q A) (pl + 12) i = ca 3 (Q 12) i := by unfold cl; rw [wAr_p12 g]; rfl
theorem iP13 (g : gP h pl) : isI (wP h pl Q) (pl + 13) = true := by unfold isI; rw [wP_c13 g]; rfl
theorem cP13 {i : Int32} (g : gP h pl) : cl (wP h pl Q) (pl + 13) i = ca 3 (Q 13) i := by unfold cl; rw [wP_c13 g]; rfl
theorem pP13 {i v : Int32} (g : gP h pl) : pt (wP h pl Q) (pl + 13) i v = wP h pl (sp Q 13 3 i v) := by
  unfold pt; rw [wP_c13 g]; unfold ia sp; dsimp only; split
  · exact (ov_set (cs := plc pl Q) (by show _ < 22; decide)).trans rfl
  · rfl
theorem iAp13 (g : gA h pl t) : isI (wAr h pl t Q A) (pl + 13) = true := by unfold isI; rw [wAr_p13 g]; rfl
theorem cAp13 {i : Int32} (g : gA h pl t) : cl (wAr h pl t Q A) (pl + 13) i = ca 3 (Q 13) i := by unfold cl; rw [wAr_p13 g]; rfl
theorem iP15 (g : gP h pl) : isI (wP h pl Q) (pl + 15) = true := by unfold isI; rw [wP_c15 g]; rfl
theorem cP15 {i : Int32} (g : gP h pl) : cl (wP h pl Q) (pl + 15) i = ca 16 (Q 15) i := by unfold cl; rw [wP_c15 g]; rfl
theorem pP15 {i v : Int32} (g : gP h pl) : pt (wP h pl Q) (pl + 15) i v = wP h pl (sp Q 15 16 i v) := by
  unfold pt; rw [wP_c15 g]; unfold ia sp; dsimp only; split
  · exact (ov_set (cs := plc pl Q) (by show _ < 22; decide)).trans rfl
  · rfl
theorem iAp15 (g : gA h pl t) : isI (wAr h pl t Q A) (pl + 15) = true := by unfold isI; rw [wAr_p15 g]; rfl
theorem cAp15 {i : Int32} (g : gA h pl t) : cl (wAr h pl t Q A) (pl + 15) i = ca 16 (Q 15) i := by unfold cl; rw [wAr_p15 g]; rfl
theorem iP16 (g : gP h pl) : isI (wP h pl Q) (pl + 16) = true := by unfold isI; rw [wP_c16 g]; rfl
theorem cP16 {i : Int32} (g : gP h pl) : cl (wP h pl Q) (pl + 16) i = ca 16 (Q 16) i := by unfold cl; rw [wP_c16 g]; rfl
theorem pP16 {i v : Int32} (g : gP h pl) : pt (wP h pl Q) (pl + 16) i v = wP h pl (sp Q 16 16 i v) := by
  unfold pt; rw [wP_c16 g]; unfold ia sp; dsimp only; split
  · exact (ov_set (cs := plc pl Q) (by show _ < 22; decide)).trans rfl
  · rfl
theorem iAp16 (g : gA h pl t) : isI (wAr h pl t Q A) (pl + 16) = true := by unfold isI; rw [wAr_p16 g]; rfl
theorem cAp16 {i : Int32} (g : gA h pl t) : cl (wAr h pl t Q A) (pl + 16) i = ca 16 (Q 16) i := by unfold cl; rw [wAr_p16 g]; rfl
theorem iP17 (g : gP h pl) : isI (wP h pl Q) (pl + 17) = true := by unfold isI; rw [wP_c17 g]; rfl
theorem cP17 {i : Int32} (g : gP h pl) : cl (wP h pl Q) (pl + 17) i = ca 16 (Q 17) i := by unfold cl; rw [wP_c17 g]; rfl
theorem pP17 {i v : Int32} (g : gP h pl) : pt (wP h pl Q) (pl + 17) i v = wP h pl (sp Q 17 16 i v) := by
  unfold pt; rw [wP_c17 g]; unfold ia sp; dsimp only; split
  · exact (ov_set (cs := plc pl Q) (by show _ < 22; decide)).trans rfl
  · rfl
theorem iAp17 (g : gA h pl t) : isI (wAr h pl t Q A) (pl + 17) = true := by unfold isI; rw [wAr_p17 g]; rfl
theorem cAp17 {i : Int32} (g : gA h pl t) : cl (wAr h pl t Q A) (pl + 17) i = ca 16 (Q 17) i := by unfold cl; rw [wAr_p17 g]; rfl
theorem iP18 (g : gP h pl) : isI (wP h pl Q) (pl + 18) = true := by unfold isI; rw [wP_c18 g]; rfl
theorem cP18 {i : Int32} (g : gP h pl) : cl (wP h pl Q) (pl + 18) i = ca 16 (Q 18) i := by unfold cl; rw [wP_c18 g]; rfl
theorem pP18 {i v : Int32} (g : gP h pl) : pt (wP h pl Q) (pl + 18) i v = wP h pl (sp Q 18 16 i v) := by
  unfold pt; rw [wP_c18 g]; unfold ia sp; dsimp only; split
  · exact (ov_set (cs := plc pl Q) (by show _ < 22; decide)).trans rfl
  · rfl
theorem iAp18 (g : gA h pl t) : isI (wAr h pl t Q A) (pl + 18) = true := by unfold isI; rw [wAr_p18 g]; rfl
theorem cAp18 {i : Int32} (g : gA h pl t) : cl (wAr h pl t Q A) (pl + 18) i = ca 16 (Q 18) i := by unfold cl; rw [wAr_p18 g]; rfl
theorem iP19 (g : gP h pl) : isI (wP h pl Q) (pl + 19) = true := by unfold isI; rw [wP_c19 g]; rfl
theorem cP19 {i : Int32} (g : gP h pl) : cl (wP h pl Q) (pl + 19) i = ca 16 (Q 19) i := by unfold cl; rw [wP_c19 g]; rfl
theorem pP19 {i v : Int32} (g : gP h pl) : pt (wP h pl Q) (pl + 19) i v = wP h pl (sp Q 19 16 i v) := by
  unfold pt; rw [wP_c19 g]; unfold ia sp; dsimp only; split
  · exact (ov_set (cs := plc pl Q) (by show _ < 22; decide)).trans rfl
  · rfl
theorem iAp19 (g : gA h pl t) : isI (wAr h pl t Q A) (pl + 19) = true := by unfold isI; rw [wAr_p19 g]; rfl
theorem cAp19 {i : Int32} (g : gA h pl t) : cl (wAr h pl t Q A) (pl + 19) i = ca 16 (Q 19) i := by unfold cl; rw [wAr_p19 g]; rfl
theorem iP20 (g : gP h pl) : isI (wP h pl Q) (pl + 20) = true := by unfold isI; rw [wP_c20 g]; rfl
theorem cP20 {i : Int32} (g : gP h pl) : cl (wP h pl Q) (pl + 20) i = ca 400 (Q 20) i := by unfold cl; rw [wP_c20 g]; rfl
theorem pP20 {i v : Int32} (g : gP h pl) : pt (wP h pl Q) (pl + 20) i v = wP h pl (sp Q 20 400 i v) := by
  unfold pt; rw [wP_c20 g]; unfold ia sp; dsimp only; split
  · exact (ov_set (cs := plc pl Q) (by show _ < 22; decide)).trans rfl
  · rfl
theorem iAp20 (g : gA h pl t) : isI (wAr h pl t Q A) (pl + 20) = true := by unfold isI; rw [wAr_p20 g]; rfl
theorem cAp20 {i : Int32} (g : gA h pl t) : cl (wAr h pl t Q A) (pl + 20) i = ca 400 (Q 20) i := by unfold cl; rw [wAr_p20 g]; rfl
theorem iP21 (g : gP h pl) : isI (wP h pl Q) (pl + 21) = true := by unfold isI; rw [wP_c21 g]; rfl
theorem cP21 {i : Int32} (g : gP h pl) : cl (wP h pl Q) (pl + 21) i = ca 400 (Q 21) i := by unfold cl; rw [wP_c21 g]; rfl
theorem pP21 {i v : Int32} (g : gP h pl) : pt (wP h pl Q) (pl + 21) i v = wP h pl (sp Q 21 400 i v) := by
  unfold pt; rw [wP_c21 g]; unfold ia sp; dsimp only; split
  · exact (ov_set (cs := plc pl Q) (by show _ < 22; decide)).trans rfl
  · rfl
theorem iAp21 (g : gA h pl t) : isI (wAr h pl t Q A) (pl + 21) = true := by unfold isI; rw [wAr_p21 g]; rfl
theorem cAp21 {i : Int32} (g : gA h pl t) : cl (wAr h pl t Q A) (pl + 21) i = ca 400 (Q 21) i := by unfold cl; rw [wAr_p21 g]; rfl
theorem iA1 (g : gA h pl t) : isI (wAr h pl t Q A) (t + 1) = true := by unfold isI; rw [wAr_c1 g]; rfl
theorem cA1 {i : Int32} (g : gA h pl t) : cl (wAr h pl t Q A) (t + 1) i = ca 40 (A 1) i := by unfold cl; rw [wAr_c1 g]; rfl
theorem pA1 {i v : Int32} (g : gA h pl t) : pt (wAr h pl t Q A) (t + 1) i v = wAr h pl t Q (sp A 1 40 i v) := by
  unfold pt; rw [wAr_c1 g]; unfold ia sp; dsimp only; split
  · exact (ov_set (cs := arc t pl A) (by show _ < 10; decide)).trans rfl
  · rfl
theorem fA1 {v : Int32} (g : gA h pl t) : fl (wAr h pl t Q A) (t + 1) v = wAr h pl t Q (flm A 1 40 v) := by
  unfold fl; rw [wAr_c1 g]; unfold ia; dsimp only; exact (ov_set (cs := arc t pl A) (by show _ < 10; decide)).trans rfl
theorem oA1 (g : gA h pl t) : 98 ≤ t + 1 := Nat.le_trans (gA_le g) (Nat.le_add_right t 1)
theorem iA2 (g : gA h pl t) : isI (wAr h pl t Q A) (t + 2) = true := by unfold isI; rw [wAr_c2 g]; rfl
theorem cA2 {i : Int32} (g : gA h pl t) : cl (wAr h pl t Q A) (t + 2) i = ca 40 (A 2) i := by unfold cl; rw [wAr_c2 g]; rfl
theorem pA2 {i v : Int32} (g : gA h pl t) : pt (wAr h pl t Q A) (t + 2) i v = wAr h pl t Q (sp A 2 40 i v) := by
  unfold pt; rw [wAr_c2 g]; unfold ia sp; dsimp only; split
  · exact (ov_set (cs := arc t pl A) (by show _ < 10; decide)).trans rfl
  · rfl
theorem fA2 {v : Int32} (g : gA h pl t) : fl (wAr h pl t Q A) (t + 2) v = wAr h pl t Q (flm A 2 40 v) := by
  unfold fl; rw [wAr_c2 g]; unfold ia; dsimp only; exact (ov_set (cs := arc t pl A) (by show _ < 10; decide)).trans rfl
theorem oA2 (g : gA h pl t) : 98 ≤ t + 2 := Nat.le_trans (gA_le g) (Nat.le_add_right t 2)
theorem iA3 (g : gA h pl t) : isI (wAr h pl t Q A) (t + 3) = true := by unfold isI; rw [wAr_c3 g]; rfl
theorem cA3 {i : Int32} (g : gA h pl t) : cl (wAr h pl t Q A) (t + 3) i = ca 40 (A 3) i := by unfold cl; rw [wAr_c3 g]; rfl
theorem pA3 {i v : Int32} (g : gA h pl t) : pt (wAr h pl t Q A) (t + 3) i v = wAr h pl t Q (sp A 3 40 i v) := by
  unfold pt; rw [wAr_c3 g]; unfold ia sp; dsimp only; split
  · exact (ov_set (cs := arc t pl A) (by show _ < 10; decide)).trans rfl
  · rfl
theorem fA3 {v : Int32} (g : gA h pl t) : fl (wAr h pl t Q A) (t + 3) v = wAr h pl t Q (flm A 3 40 v) := by
  unfold fl; rw [wAr_c3 g]; unfold ia; dsimp only; exact (ov_set (cs := arc t pl A) (by show _ < 10; decide)).trans rfl
theorem oA3 (g : gA h pl t) : 98 ≤ t + 3 := Nat.le_trans (gA_le g) (Nat.le_add_right t 3)
theorem iA4 (g : gA h pl t) : isI (wAr h pl t Q A) (t + 4) = true := by unfold isI; rw [wAr_c4 g]; rfl
theorem cA4 {i : Int32} (g : gA h pl t) : cl (wAr h pl t Q A) (t + 4) i = ca 3 (A 4) i := by unfold cl; rw [wAr_c4 g]; rfl
theorem pA4 {i v : Int32} (g : gA h pl t) : pt (wAr h pl t Q A) (t + 4) i v = wAr h pl t Q (sp A 4 3 i v) := by
  unfold pt; rw [wAr_c4 g]; unfold ia sp; dsimp only; split
  · exact (ov_set (cs := arc t pl A) (by show _ < 10; decide)).trans rfl
  · rfl
theorem fA4 {v : Int32} (g : gA h pl t) : fl (wAr h pl t Q A) (t + 4) v = wAr h pl t Q (flm A 4 3 v) := by
  unfold fl; rw [wAr_c4 g]; unfold ia; dsimp only; exact (ov_set (cs := arc t pl A) (by show _ < 10; decide)).trans rfl
theorem oA4 (g : gA h pl t) : 98 ≤ t + 4 := Nat.le_trans (gA_le g) (Nat.le_add_right t 4)
theorem iA5 (g : gA h pl t) : isI (wAr h pl t Q A) (t + 5) = true := by unfold isI; rw [wAr_c5 g]; rfl
theorem cA5 {i : Int32} (g : gA h pl t) : cl (wAr h pl t Q A) (t + 5) i = ca 3 (A 5) i := by unfold cl; rw [wAr_c5 g]; rfl
theorem pA5 {i v : Int32} (g : gA h pl t) : pt (wAr h pl t Q A) (t + 5) i v = wAr h pl t Q (sp A 5 3 i v) := by
  unfold pt; rw [wAr_c5 g]; unfold ia sp; dsimp only; split
  · exact (ov_set (cs := arc t pl A) (by show _ < 10; decide)).trans rfl
  · rfl
theorem fA5 {v : Int32} (g : gA h pl t) : fl (wAr h pl t Q A) (t + 5) v = wAr h pl t Q (flm A 5 3 v) := by
  unfold fl; rw [wAr_c5 g]; unfold ia; dsimp only; exact (ov_set (cs := arc t pl A) (by show _ < 10; decide)).trans rfl
theorem oA5 (g : gA h pl t) : 98 ≤ t + 5 := Nat.le_trans (gA_le g) (Nat.le_add_right t 5)
theorem iA6 (g : gA h pl t) : isI (wAr h pl t Q A) (t + 6) = true := by unfold isI; rw [wAr_c6 g]; rfl
theorem cA6 {i : Int32} (g : gA h pl t) : cl (wAr h pl t Q A) (t + 6) i = ca 3 (A 6) i := by unfold cl; rw [wAr_c6 g]; rfl
theorem pA6 {i v : Int32} (g : gA h pl t) : pt (wAr h pl t Q A) (t + 6) i v = wAr h pl t Q (sp A 6 3 i v) := by
  unfold pt; rw [wAr_c6 g]; unfold ia sp; dsimp only; split
  · exact (ov_set (cs := arc t pl A) (by show _ < 10; decide)).trans rfl
  · rfl
theorem fA6 {v : Int32} (g : gA h pl t) : fl (wAr h pl t Q A) (t + 6) v = wAr h pl t Q (flm A 6 3 v) := by
  unfold fl; rw [wAr_c6 g]; unfold ia; dsimp only; exact (ov_set (cs := arc t pl A) (by show _ < 10; decide)).trans rfl
theorem oA6 (g : gA h pl t) : 98 ≤ t + 6 := Nat.le_trans (gA_le g) (Nat.le_add_right t 6)
theorem iA7 (g : gA h pl t) : isI (wAr h pl t Q A) (t + 7) = true := by unfold isI; rw [wAr_c7 g]; rfl
theorem cA7 {i : Int32} (g : gA h pl t) : cl (wAr h pl t Q A) (t + 7) i = ca 3 (A 7) i := by unfold cl; rw [wAr_c7 g]; rfl
theorem pA7 {i v : Int32} (g : gA h pl t) : pt (wAr h pl t Q A) (t + 7) i v = wAr h pl t Q (sp A 7 3 i v) := by
  unfold pt; rw [wAr_c7 g]; unfold ia sp; dsimp only; split
  · exact (ov_set (cs := arc t pl A) (by show _ < 10; decide)).trans rfl
  · rfl
theorem fA7 {v : Int32} (g : gA h pl t) : fl (wAr h pl t Q A) (t + 7) v = wAr h pl t Q (flm A 7 3 v) := by
  unfold fl; rw [wAr_c7 g]; unfold ia; dsimp only; exact (ov_set (cs := arc t pl A) (by show _ < 10; decide)).trans rfl
theorem oA7 (g : gA h pl t) : 98 ≤ t + 7 := Nat.le_trans (gA_le g) (Nat.le_add_right t 7)
theorem iA8 (g : gA h pl t) : isI (wAr h pl t Q A) (t + 8) = true := by unfold isI; rw [wAr_c8 g]; rfl
theorem cA8 {i : Int32} (g : gA h pl t) : cl (wAr h pl t Q A) (t + 8) i = ca 3 (A 8) i := by unfold cl; rw [wAr_c8 g]; rfl
theorem pA8 {i v : Int32} (g : gA h pl t) : pt (wAr h pl t Q A) (t + 8) i v = wAr h pl t Q (sp A 8 3 i v) := by
  unfold pt; rw [wAr_c8 g]; unfold ia sp; dsimp only; split
  · exact (ov_set (cs := arc t pl A) (by show _ < 10; decide)).trans rfl
  · rfl
theorem fA8 {v : Int32} (g : gA h pl t) : fl (wAr h pl t Q A) (t + 8) v = wAr h pl t Q (flm A 8 3 v) := by
  unfold fl; rw [wAr_c8 g]; unfold ia; dsimp only; exact (ov_set (cs := arc t pl A) (by show _ < 10; decide)).trans rfl
theorem oA8 (g : gA h pl t) : 98 ≤ t + 8 := Nat.le_trans (gA_le g) (Nat.le_add_right t 8)
theorem iA9 (g : gA h pl t) : isI (wAr h pl t Q A) (t + 9) = true := by unfold isI; rw [wAr_c9 g]; rfl
theorem cA9 {i : Int32} (g : gA h pl t) : cl (wAr h pl t Q A) (t + 9) i = ca 400 (A 9) i := by unfold cl; rw [wAr_c9 g]; rfl
theorem pA9 {i v : Int32} (g : gA h pl t) : pt (wAr h pl t Q A) (t + 9) i v = wAr h pl t Q (sp A 9 400 i v) := by
  unfold pt; rw [wAr_c9 g]; unfold ia sp; dsimp only; split
  · exact (ov_set (cs := arc t pl A) (by show _ < 10; decide)).trans rfl
  · rfl
theorem fA9 {v : Int32} (g : gA h pl t) : fl (wAr h pl t Q A) (t + 9) v = wAr h pl t Q (flm A 9 400 v) := by
  unfold fl; rw [wAr_c9 g]; unfold ia; dsimp only; exact (ov_set (cs := arc t pl A) (by show _ < 10; decide)).trans rfl
theorem oA9 (g : gA h pl t) : 98 ≤ t + 9 := Nat.le_trans (gA_le g) (Nat.le_add_right t 9)
theorem oP1 (g : gP h pl) : 98 ≤ pl + 1 := Nat.le_trans g.1 (Nat.le_add_right pl 1)
theorem oP2 (g : gP h pl) : 98 ≤ pl + 2 := Nat.le_trans g.1 (Nat.le_add_right pl 2)
theorem oP3 (g : gP h pl) : 98 ≤ pl + 3 := Nat.le_trans g.1 (Nat.le_add_right pl 3)
theorem oP4 (g : gP h pl) : 98 ≤ pl + 4 := Nat.le_trans g.1 (Nat.le_add_right pl 4)
theorem oP5 (g : gP h pl) : 98 ≤ pl + 5 := Nat.le_trans g.1 (Nat.le_add_right pl 5)
theorem oP6 (g : gP h pl) : 98 ≤ pl + 6 := Nat.le_trans g.1 (Nat.le_add_right pl 6)
theorem oP7 (g : gP h pl) : 98 ≤ pl + 7 := Nat.le_trans g.1 (Nat.le_add_right pl 7)
theorem oP8 (g : gP h pl) : 98 ≤ pl + 8 := Nat.le_trans g.1 (Nat.le_add_right pl 8)
theorem oP9 (g : gP h pl) : 98 ≤ pl + 9 := Nat.le_trans g.1 (Nat.le_add_right pl 9)
theorem oP10 (g : gP h pl) : 98 ≤ pl + 10 := Nat.le_trans g.1 (Nat.le_add_right pl 10)
theorem oP11 (g : gP h pl) : 98 ≤ pl + 11 := Nat.le_trans g.1 (Nat.le_add_right pl 11)
theorem oP12 (g : gP h pl) : 98 ≤ pl + 12 := Nat.le_trans g.1 (Nat.le_add_right pl 12)
theorem oP13 (g : gP h pl) : 98 ≤ pl + 13 := Nat.le_trans g.1 (Nat.le_add_right pl 13)
theorem oP15 (g : gP h pl) : 98 ≤ pl + 15 := Nat.le_trans g.1 (Nat.le_add_right pl 15)
theorem oP16 (g : gP h pl) : 98 ≤ pl + 16 := Nat.le_trans g.1 (Nat.le_add_right pl 16)
theorem oP17 (g : gP h pl) : 98 ≤ pl + 17 := Nat.le_trans g.1 (Nat.le_add_right pl 17)
theorem oP18 (g : gP h pl) : 98 ≤ pl + 18 := Nat.le_trans g.1 (Nat.le_add_right pl 18)
theorem oP19 (g : gP h pl) : 98 ≤ pl + 19 := Nat.le_trans g.1 (Nat.le_add_right pl 19)
theorem oP20 (g : gP h pl) : 98 ≤ pl + 20 := Nat.le_trans g.1 (Nat.le_add_right pl 20)
theorem oP21 (g : gP h pl) : 98 ≤ pl + 21 := Nat.le_trans g.1 (Nat.le_add_right pl 21)
theorem isAA (g : gA h pl t) : ix_is (ixP fv) (wAr h pl t Q A) t "SkylightWash$Arcade" = true := is_of (wAr_c0 g) (by decide +kernel)
theorem isAP (g : gA h pl t) : ix_is (ixP fv) (wAr h pl t Q A) pl "SkylightWash$Plan" = true := is_of (wAr_p0 g) (by decide +kernel)
theorem isAO (g : gA h pl t) : ix_is (ixP fv) (wAr h pl t Q A) (pl + 14) "SkylightWash$Orders" = true := is_of (wAr_p14 g) (by decide +kernel)
theorem isPP (g : gP h pl) : ix_is (ixP fv) (wP h pl Q) pl "SkylightWash$Plan" = true := is_of (wP_c0 g) (by decide +kernel)
theorem isPO (g : gP h pl) : ix_is (ixP fv) (wP h pl Q) (pl + 14) "SkylightWash$Orders" = true := is_of (wP_c14 g) (by decide +kernel)
end WORLD
