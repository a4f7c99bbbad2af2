/-! THE START: what the list reads from the script (written by gen99991.py). -/
def sB (ce : Nat → Int32) (b : Nat) : Int32 := ce 1 >>> (4 * nI b &&& 31)
def pB (ce : Nat → Int32) (b : Nat) : Nat := 1 + blw (sB ce b) 8
def tB (ce : Nat → Int32) (b : Nat) : Nat := 1 + blw (sB ce b >>> (3 &&& 31)) (if nI (blw (sB ce b >>> (5 &&& 31)) 2) = 0 then 9 else 3)
/-- first panes of bays -/
def fS (ce : Nat → Int32) : Nat → Nat
  | 0 => 0
  | b + 1 => fS ce b + pB ce b
def n1 (ce : Nat → Int32) : Nat := 1 + blw (ce 0) 4
def n2 (ce : Nat → Int32) : Nat := fS ce (n1 ce)
/-- the bay of a pane -/
def bO (ce : Nat → Int32) (p : Nat) : Nat → Nat
  | 0 => 0
  | b + 1 => if fS ce b ≤ p then b else bO ce p b
def sC (ce : Nat → Int32) (k : Nat) : Int32 := ce 3 >>> (3 * nI k &&& 31)
def n3 (ce : Nat → Int32) : Nat := 1 + blw (ce 2) 4
def sR (ce : Nat → Int32) (k : Nat) : Int32 := ce 5 >>> (4 * nI k &&& 31)
def n4 (ce : Nat → Int32) : Nat := 1 + blw (ce 4) 3
def sF (ce : Nat → Int32) (k : Nat) : Int32 := ce 7 >>> (5 * nI k &&& 31)
def n5 (ce : Nat → Int32) : Nat := 1 + blw (ce 6) 3
def sX (ce : Nat → Int32) (k : Nat) : Int32 := ce (9 + k % 3) >>> (nI k / 3 * 8 &&& 31)
def sY (ce : Nat → Int32) (k : Nat) : Int32 := ce (12 + k % 4) >>> (nI k / 4 * 9 &&& 31)
def n6 (ce : Nat → Int32) : Nat := blw (ce 8) 8
def sc6 (ce : Nat → Int32) (k : Nat) : Bool := decide (nI (blw (sX ce k) 4) = 0)
def wh6 (ce : Nat → Int32) (k : Nat) : Nat := blw (sX ce k >>> (2 &&& 31)) (if sc6 ce k = true then n5 ce else n4 ce)
def so6 (ce : Nat → Int32) (k : Nat) : Int32 := if nI (blw (sY ce k) 11) - 3 < 0 then (if sc6 ce k = true then 7 else -1) else nI (blw (sY ce k) 11) - 3
/-- the rows -/
def WM (ce : Nat → Int32) : Mm
  | 0, _ => upd (fun _ => 0) 3 (-1)
  | 1, b => upd (upd (fun _ => 0) 0 (nI (pB ce b))) 1 (nI (tB ce b))
  | 2, p => upd (upd (upd (upd (fun _ => 0) 0 (nI (bO ce p (n1 ce)))) 1 0) 2 0) 3 0
  | 3, k => upd (upd (upd (upd (fun _ => 0) 0 (nI (blw (sC ce k) (n2 ce)))) 1 (nI (1 + blw (sC ce k >>> (2 &&& 31)) 30))) 2 (nI (1 + blw (sC ce k >>> (4 &&& 31)) 12))) 3 (nI (blw (sC ce k >>> (6 &&& 31)) 10))
  | 4, c => upd (upd (upd (upd (upd (fun _ => 0) 0 (nI (blw (sR ce c) (n2 ce)))) 1 (nI (1 + blw (sR ce c >>> (3 &&& 31)) 9))) 2 (nI (1 + blw (sR ce c >>> (5 &&& 31)) 60))) 3 20) 4 0
  | 5, f => upd (upd (upd (upd (fun _ => 0) 0 (-1)) 1 (nI (1 + blw (sF ce f) 20))) 2 (nI (1 + blw (sF ce f >>> (4 &&& 31)) 12))) 3 0
  | 6, k => upd (upd (upd (upd (upd (upd (upd (upd (upd (upd (fun _ => 0) 0 (b01 (sc6 ce k))) 1 (nI (wh6 ce k))) 2 (nI (blw (sX ce k >>> (4 &&& 31)) 6))) 3 (nI (blw (sX ce k >>> (5 &&& 31)) 130))) 4 (so6 ce k)) 5 (nI (blw (sY ce k >>> (3 &&& 31)) 90))) 6 (nI (blw (sY ce k >>> (5 &&& 31)) (n2 ce + 2)))) 7 (nI (blw (sX ce k >>> (6 &&& 31)) (n1 ce)))) 8 (nI (blw (sX ce k >>> (3 &&& 31)) (n4 ce)))) 9 (nI (blw (sY ce k >>> (2 &&& 31)) (n5 ce)))
  | _, _ => fun _ => 0
section ST2
variable {fv : Value} {d : Nat} {h h' : ix_H} {o v v' s q w k m t r N : Nat} {xs : Nat → Int32} {l l' : List Int32} {X X' : Nat → Nat} {D D' : Nat → Nat → Nat} {n c : Nat → Nat} {M : Mm}
theorem LB_n (g : LB N xs h o v l s X D n c M) (h1 : 1 ≤ t) (h6 : t ≤ 6) : rN (ixP fv) h (X t) = some (.int (nI (n t))) := rN_of (g.2.2.2.2.1 t h1 h6).2.2.2 (by decide)
theorem LB_q (g : LB N xs h o v l s X D n c M) (h1 : 1 ≤ t) (h6 : t ≤ 6) (hr : r < c t) : rQ (ixP fv) h (X t) (nI r) = some (.ref (D t r)) := by
  obtain ⟨a1, a2, a3, a4⟩ := g.2.2.2.2.1 t h1 h6
  unfold rQ ix_aq
  rw [a4]
  refine (if_pos ⟨a1, rfl, in_big (show r < n t by omega) (by omega)⟩).trans ?_
  rw [nI_clamp (by omega)]
  show some (ix_rf (if r < c t then some (D t r) else none)) = _
  rw [if_pos hr]
  rfl
theorem lnS_le : lnS t ≤ 10 := by
  unfold lnS
  split <;> decide
theorem LB_a (g : LB N xs h o v l s X D n c M) (h1 : 1 ≤ t) (h6 : t ≤ 6) (hr : r < c t) (hj : m < lnS t) : rA h (D t r) (nI m) = some (.int (M t r m)) := by
  have := lnS_le (t := t)
  rw [rA_of (g.2.2.2.2.2.1 t r h1 h6 hr).2 (in_big hj (by omega)), nI_clamp (by omega)]
theorem LB_f1 {ty : FieldType} {fin : Bool} {Y : Option String} (g : LB N xs h o v l s X D n c M) : rF (ixP fv) h s (7, 4, ty, fin, Y) = some (.ref (X 1)) := rF_of g.2.2.2.1.2 g.2.2.2.1.1 rfl
theorem LB_f2 {ty : FieldType} {fin : Bool} {Y : Option String} (g : LB N xs h o v l s X D n c M) : rF (ixP fv) h s (7, 5, ty, fin, Y) = some (.ref (X 2)) := rF_of g.2.2.2.1.2 g.2.2.2.1.1 rfl
theorem LB_f3 {ty : FieldType} {fin : Bool} {Y : Option String} (g : LB N xs h o v l s X D n c M) : rF (ixP fv) h s (7, 6, ty, fin, Y) = some (.ref (X 3)) := rF_of g.2.2.2.1.2 g.2.2.2.1.1 rfl
theorem LB_f4 {ty : FieldType} {fin : Bool} {Y : Option String} (g : LB N xs h o v l s X D n c M) : rF (ixP fv) h s (7, 7, ty, fin, Y) = some (.ref (X 4)) := rF_of g.2.2.2.1.2 g.2.2.2.1.1 rfl
theorem LB_f5 {ty : FieldType} {fin : Bool} {Y : Option String} (g : LB N xs h o v l s X D n c M) : rF (ixP fv) h s (7, 8, ty, fin, Y) = some (.ref (X 5)) := rF_of g.2.2.2.1.2 g.2.2.2.1.1 rfl
theorem LB_f6 {ty : FieldType} {fin : Bool} {Y : Option String} (g : LB N xs h o v l s X D n c M) : rF (ixP fv) h s (7, 9, ty, fin, Y) = some (.ref (X 6)) := rF_of g.2.2.2.1.2 g.2.2.2.1.1 rfl
theorem e167 {m : Nat} (h0 : 0 < m) (hm : m < 2 ^ 31) : ∀ (h : ix_H) (d : Nat) (y : Int32), xe (ixP fv) d 167 0 [some (.int y), some (.int (nI m))] [] h = some (.inl (some (.int (nI (blw y m)))), h) := fun h d y => m167 (fv := fv) (d := d) (h := h) (x := y) h0 hm
theorem pB_b {ce : Nat → Int32} {b : Nat} : 1 ≤ pB ce b ∧ pB ce b ≤ 8 := by
  have := blw_lt (x := sB ce b) (m := 8) (by decide)
  unfold pB
  omega
theorem tB_b {ce : Nat → Int32} {b : Nat} : 1 ≤ tB ce b ∧ tB ce b ≤ 9 := by
  unfold tB
  split
  · have := blw_lt (x := sB ce b >>> (3 &&& 31)) (m := 9) (by decide)
    omega
  · have := blw_lt (x := sB ce b >>> (3 &&& 31)) (m := 3) (by decide)
    omega
theorem fS_b {ce : Nat → Int32} : ∀ b, fS ce b ≤ 8 * b ∧ b ≤ fS ce b
  | 0 => ⟨Nat.le_refl _, Nat.le_refl _⟩
  | b + 1 => by
    have := fS_b (ce := ce) b
    have := pB_b (ce := ce) (b := b)
    show fS ce b + pB ce b ≤ _ ∧ _ ≤ fS ce b + pB ce b
    omega
theorem n1_b {ce : Nat → Int32} : 1 ≤ n1 ce ∧ n1 ce ≤ 4 := by
  have := blw_lt (x := ce 0) (m := 4) (by decide)
  unfold n1
  omega
theorem n2_b {ce : Nat → Int32} : 1 ≤ n2 ce ∧ n2 ce ≤ 32 := by
  have := n1_b (ce := ce)
  have := fS_b (ce := ce) (n1 ce)
  unfold n2
  omega
theorem n3_b {ce : Nat → Int32} : 1 ≤ n3 ce ∧ n3 ce ≤ 4 := by
  have := blw_lt (x := ce 2) (m := 4) (by decide)
  unfold n3
  omega
theorem n4_b {ce : Nat → Int32} : 1 ≤ n4 ce ∧ n4 ce ≤ 3 := by
  have := blw_lt (x := ce 4) (m := 3) (by decide)
  unfold n4
  omega
theorem n5_b {ce : Nat → Int32} : 1 ≤ n5 ce ∧ n5 ce ≤ 3 := by
  have := blw_lt (x := ce 6) (m := 3) (by decide)
  unfold n5
  omega
theorem n6_b {ce : Nat → Int32} : n6 ce ≤ 7 := by
  have := blw_lt (x := ce 8) (m := 8) (by decide)
  unfold n6
  omega
end ST2
