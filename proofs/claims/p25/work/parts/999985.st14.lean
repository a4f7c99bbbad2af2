/-! THE START: the tape (written by gen999985.py). -/
def tpc (tp : Nat) (T : Nat → Int32) (e : Int32) : List ix_C := [.inr (4, [.ref (tp + 1), .int e]), ia 2000 T]
/-- the tape over a heap -/
def wT (h : ix_H) (tp : Nat) (T : Nat → Int32) (e : Int32) : ix_H := ov h tp (tpc tp T e)
def ap4 (T : Nat → Int32) (p n : Nat) : Nat → Int32 := upd (upd (upd (upd T p (nI (n / 16777216 % 256))) (p + 1) (nI (n / 65536 % 256))) (p + 2) (nI (n / 256 % 256))) (p + 3) (nI (n % 256))
/-- the byte of a text at a place -/
def byI (l : List Int32) (i : Nat) : Nat := if i < l.length then (l.getD i 0).toNatClampNeg else 32
def vb (l : List Int32) (p : Nat) : Nat → Nat
  | 0 => 0
  | m + 1 => vb l p m * 256 + byI l (p + m)
/-- signs below 128 -/
def asc (l : List Int32) : Prop := ∀ i, i < l.length → ∃ c, c < 128 ∧ l[i]? = some (nI c)
section ST14
variable {fv : Value} {d : Nat} {h : ix_H} {tp b p n k i q : Nat} {T F : Nat → Int32} {e v : Int32} {l : List Int32}
theorem wT_0 (ht : tp + 2 ≤ h.length) : (wT h tp T e)[tp]? = some (.inr (4, [.ref (tp + 1), .int e])) := (ov_in0 (cs := tpc tp T e) ht (by show _ < 2; decide)).trans rfl
theorem wT_1 (ht : tp + 2 ≤ h.length) : (wT h tp T e)[tp + 1]? = some (ia 2000 T) := (ov_in (k := 1) (cs := tpc tp T e) ht (by show _ < 2; decide)).trans rfl
theorem wT_o (hq : q < tp ∨ tp + 2 ≤ q) : (wT h tp T e)[q]? = h[q]? := by
  rcases hq with hq | hq
  · exact ov_lo hq
  · exact ov_hi hq
theorem rT_0 {ty : FieldType} {fin : Bool} {Y : Option String} (h98 : 98 ≤ tp) (ht : tp + 2 ≤ h.length) : rF (ixP fv) (wT h tp T e) tp (4, 0, ty, fin, Y) = some (.ref (tp + 1)) := rF_of (wT_0 ht) h98 rfl
theorem rT_1 {ty : FieldType} {fin : Bool} {Y : Option String} (h98 : 98 ≤ tp) (ht : tp + 2 ≤ h.length) : rF (ixP fv) (wT h tp T e) tp (4, 1, ty, fin, Y) = some (.int e) := rF_of (wT_0 ht) h98 rfl
theorem wT_e {ini : Bool} {Y : Option String} (h98 : 98 ≤ tp) (ht : tp + 2 ≤ h.length) : wF (ixP fv) (wT h tp T e) tp (4, 1, .int, false, Y) ini (.int v) = some (wT h tp T v) := (wF_of (wT_0 ht) h98 (by show _ < 2; decide) rfl (Or.inl rfl)).trans (congrArg some ((ov_set0 (cs := tpc tp T e) (by show _ < 2; decide)).trans rfl))
theorem isTp (ht : tp + 2 ≤ h.length) : ix_is (ixP fv) (wT h tp T e) tp "SkylightWash$Tape" = true := is_of (wT_0 ht) (by decide +kernel)
theorem isI_T (ht : tp + 2 ≤ h.length) : isI (wT h tp T e) (tp + 1) = true := by
  unfold isI
  rw [wT_1 ht]
  rfl
theorem pt_T (ht : tp + 2 ≤ h.length) (hp : p < 2000) : pt (wT h tp T e) (tp + 1) (nI p) v = wT h tp (upd T p v) e := by
  unfold pt
  rw [wT_1 ht]
  show (if ix_in (nI p) 2000 = true then (wT h tp T e).set (tp + 1) (.inl (0, 2000, .inl (upd T (nI p).toNatClampNeg v))) else wT h tp T e) = _
  rw [if_pos (in_big hp (by decide)), nI_clamp (by omega)]
  exact (ov_set (cs := tpc tp T e) (by show _ < 2; decide)).trans rfl
theorem shr (hn : n < 2 ^ 31) (s : Nat) (hs : s < 32) : ((nI n).toUInt32 >>> ((nI s).toUInt32 &&& Int32.toUInt32 31)).toInt32 &&& 255 = nI (n / 2 ^ s % 256) := by
  have h : ∀ s, s < 32 → (((nI s).toUInt32 &&& Int32.toUInt32 31).toBitVec % 32).toNat = s := by decide +kernel
  rw [pk_ushrN (by omega) (nI s) s (h s hs)]
  have : n / 2 ^ s ≤ n := Nat.div_le_self _ _
  exact pk_andN (m := 255) (by omega) 8 (by decide)
theorem m75 (h98 : 98 ≤ tp) (ht : tp + 2 ≤ h.length) (hp : p + 4 ≤ 2000) (hn : n < 2 ^ 31) : xe (ixP fv) (d + 1) 75 0 [some (.ref tp), some (.int (nI n)), none] [] (wT h tp T (nI p)) = some (.inl none, wT h tp (ap4 T p n) (nI (p + 4))) := by
  have f0 := fun T e ty fin Y => rT_0 (fv := fv) (h := h) (T := T) (e := e) (ty := ty) (fin := fin) (Y := Y) h98 ht
  have f1 := fun T e ty fin Y => rT_1 (fv := fv) (h := h) (T := T) (e := e) (ty := ty) (fin := fin) (Y := Y) h98 ht
  have we := fun T e v ini Y => wT_e (fv := fv) (h := h) (T := T) (e := e) (v := v) (ini := ini) (Y := Y) h98 ht
  have eP := fun T e d i v => m117 (fv := fv) (d := d) (h := wT h tp T e) (o := tp + 1) (i := i) (v := v) (isI_T ht) (by omega)
  have p0 := fun T e v => pt_T (h := h) (tp := tp) (p := p) (T := T) (e := e) (v := v) ht (by omega)
  have p1 := fun T e v => pt_T (h := h) (tp := tp) (p := p + 1) (T := T) (e := e) (v := v) ht (by omega)
  have p2 := fun T e v => pt_T (h := h) (tp := tp) (p := p + 2) (T := T) (e := e) (v := v) ht (by omega)
  have p3 := fun T e v => pt_T (h := h) (tp := tp) (p := p + 3) (T := T) (e := e) (v := v) ht (by omega)
  have a0 : nI p + 1 = nI (p + 1) := nI_add p 1
  have a1 : nI (p + 1) + 1 = nI (p + 2) := nI_add (p + 1) 1
  have a2 : nI (p + 2) + 1 = nI (p + 3) := nI_add (p + 2) 1
  have a3 : nI (p + 3) + 1 = nI (p + 4) := nI_add (p + 3) 1
  have s24 : (Int32.toUInt32 (nI n) >>> (Int32.toUInt32 24 &&& Int32.toUInt32 31)).toInt32 &&& 255 = nI (n / 16777216 % 256) := shr hn 24 (by decide)
  have s16 : (Int32.toUInt32 (nI n) >>> (Int32.toUInt32 16 &&& Int32.toUInt32 31)).toInt32 &&& 255 = nI (n / 65536 % 256) := shr hn 16 (by decide)
  have s8 : (Int32.toUInt32 (nI n) >>> (Int32.toUInt32 8 &&& Int32.toUInt32 31)).toInt32 &&& 255 = nI (n / 256 % 256) := shr hn 8 (by decide)
  have s0 : (Int32.toUInt32 (nI n) >>> (Int32.toUInt32 0 &&& Int32.toUInt32 31)).toInt32 &&& 255 = nI (n % 256) := (shr hn 0 (by decide)).trans (by rw [show n / 2 ^ 0 = n by omega])
  have b24 : (24 : Int32) + -8 = 16 := by decide
  have b16 : (16 : Int32) + -8 = 8 := by decide
  have b8 : (8 : Int32) + -8 = 0 := by decide
  have b0 : (0 : Int32) + -8 = -8 := by decide
  have c24 : ¬ (24 : Int32) < 0 := by decide
  have c16 : ¬ (16 : Int32) < 0 := by decide
  have c8 : ¬ (8 : Int32) < 0 := by decide
  have c0 : ¬ (0 : Int32) < 0 := by decide
  have cm : (-8 : Int32) < 0 := by decide
  simp only [q75_0, q75_2, q75_3, q75_4, q75_7, q75_8, q75_11, q75_12, q75_15, q75_16, q75_17, q75_18, q75_21, q75_22, q75_25, q75_26, q75_27, q75_30, q75_31, q75_32, q75_35, q75_38, q75_41 (st := []), i10, eq_self, ft0, ft1, b01_ft, k1r, k1i, xG_some, xH_some, xC_v, xC_n, if_true, if_false, not_true_eq_false, not_false_eq_true, ix_st, ix_st2, List.getElem?_cons_succ, List.getElem?_cons_zero, List.set_cons_succ, List.set_cons_zero, Value.category, List.map_cons, List.map_nil, List.sum_cons, List.sum_nil, Nat.reduceAdd, Nat.reduceLeDiff, Nat.reduceEqDiff, Nat.zero_le, reduceCtorEq, ↓reduceIte, eq_self, xit, f0, f1, we, eP, p0, p1, p2, p3, a0, a1, a2, a3, s24, s16, s8, s0, b24, b16, b8, b0, c24, c16, c8, c0, cm]
  rfl
end ST14
