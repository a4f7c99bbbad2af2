/-! THE START: the text goes on the tape (written by gen999986.py). -/
section ST15
variable {fv : Value} {d : Nat} {h : ix_H} {tp b rd t t2 p n k i j m q w n0 n1 n2 n3 n4 : Nat} {T F : Nat → Int32} {e v lea : Int32} {l : List Int32}
theorem byI_b (ha : asc l) : byI l i < 128 := by
  unfold byI
  split
  · next h =>
    obtain ⟨c, hc, e⟩ := ha i h
    rw [List.getD_eq_getElem?_getD, e]
    show (nI c).toNatClampNeg < 128
    rw [nI_clamp (by omega)]
    exact hc
  · decide
theorem byI_l (ha : asc l) (hi : i < l.length) : l[i]? = some (nI (byI l i)) := by
  obtain ⟨c, hc, e⟩ := ha i hi
  unfold byI
  rw [if_pos hi, List.getD_eq_getElem?_getD, e]
  show _ = some (nI (nI c).toNatClampNeg)
  rw [nI_clamp (by omega)]
theorem vb_4 (ha : asc l) : vb l p 4 < 2 ^ 31 ∧ vb l p 4 / 16777216 % 256 = byI l p ∧ vb l p 4 / 65536 % 256 = byI l (p + 1) ∧ vb l p 4 / 256 % 256 = byI l (p + 2) ∧ vb l p 4 % 256 = byI l (p + 3) := by
  have b0 := byI_b (i := p) ha
  have b1 := byI_b (i := p + 1) ha
  have b2 := byI_b (i := p + 2) ha
  have b3 := byI_b (i := p + 3) ha
  have e : vb l p 4 = ((byI l p * 256 + byI l (p + 1)) * 256 + byI l (p + 2)) * 256 + byI l (p + 3) := by
    show (((0 * 256 + byI l (p + 0)) * 256 + byI l (p + 1)) * 256 + byI l (p + 2)) * 256 + byI l (p + 3) = _
    rw [Nat.zero_mul, Nat.zero_add, Nat.add_zero]
  rw [e]
  omega
theorem vb_lt (ha : asc l) : ∀ m, m ≤ 3 → vb l p m < 2 ^ 23
  | 0, _ => by show 0 < _; decide
  | 1, _ => by
    have b0 := byI_b (i := p + 0) ha
    show 0 * 256 + byI l (p + 0) < _
    omega
  | 2, _ => by
    have b0 := byI_b (i := p + 0) ha
    have b1 := byI_b (i := p + 1) ha
    show (0 * 256 + byI l (p + 0)) * 256 + byI l (p + 1) < _
    omega
  | 3, _ => by
    have b0 := byI_b (i := p + 0) ha
    have b1 := byI_b (i := p + 1) ha
    have b2 := byI_b (i := p + 2) ha
    show ((0 * 256 + byI l (p + 0)) * 256 + byI l (p + 1)) * 256 + byI l (p + 2) < _
    omega
  | m + 4, h => by omega
theorem sh_or {a c : Nat} (ha : a < 2 ^ 23) (hc : c < 256) : nI a <<< ((8 : Int32) &&& 31) ||| nI c = nI (a * 256 + c) := by
  rw [pk_shlN (n := a) ((8 : Int32) &&& 31) 8 (by decide) (by omega)]
  apply Int32.toBitVec_inj.mp
  apply BitVec.eq_of_toNat_eq
  rw [Int32.toBitVec_or, BitVec.toNat_or]
  show (BitVec.ofNat 32 (a * 2 ^ 8)).toNat ||| (BitVec.ofNat 32 c).toNat = (BitVec.ofNat 32 (a * 256 + c)).toNat
  rw [BitVec.toNat_ofNat, BitVec.toNat_ofNat, BitVec.toNat_ofNat, Nat.mod_eq_of_lt (by omega), Nat.mod_eq_of_lt (by omega), Nat.mod_eq_of_lt (by omega)]
  have h := Nat.shiftLeft_add_eq_or_of_lt (i := 8) (show c < 2 ^ 8 by omega) a
  rw [Nat.shiftLeft_eq] at h
  omega
theorem ap4_i (ha : asc l) : ap4 T p (vb l p 4) i = if p ≤ i ∧ i < p + 4 then nI (byI l i) else T i := by
  obtain ⟨-, e0, e1, e2, e3⟩ := vb_4 (p := p) ha
  unfold ap4
  rw [e0, e1, e2, e3]
  by_cases c3 : i = p + 3
  · subst c3
    rw [upd_eq, if_pos (by omega)]
  rw [upd_ne c3]
  by_cases c2 : i = p + 2
  · subst c2
    rw [upd_eq, if_pos (by omega)]
  rw [upd_ne c2]
  by_cases c1 : i = p + 1
  · subst c1
    rw [upd_eq, if_pos (by omega)]
  rw [upd_ne c1]
  by_cases c0 : i = p
  · subst c0
    rw [upd_eq, if_pos (by omega)]
  rw [upd_ne c0, if_neg (by omega)]
theorem rW_T {ty : FieldType} {fin : Bool} {Y : Option String} (hb : h[b]? = some (.inr (6, [.ref tp, .ref rd, .ref t, .ref t2, .int lea]))) (h98 : 98 ≤ b) (hbt : b < tp) : rF (ixP fv) (wT h tp T e) b (6, 0, ty, fin, Y) = some (.ref tp) := rF_of ((wT_o (Or.inl hbt)).trans hb) h98 rfl
theorem isW_T (hb : h[b]? = some (.inr (6, [.ref tp, .ref rd, .ref t, .ref t2, .int lea]))) (hbt : b < tp) : ix_is (ixP fv) (wT h tp T e) b "SkylightWash" = true := is_of ((wT_o (Or.inl hbt)).trans hb) (by decide +kernel)
theorem m91 (hb : h[b]? = some (.inr (6, [.ref tp, .ref rd, .ref t, .ref t2, .int lea]))) (h98 : 98 ≤ b) (hbt : b < tp) (ht : tp + 2 ≤ h.length) (hp : p ≤ 1980) (k0 : n0 < 2 ^ 31) (k1 : n1 < 2 ^ 31) (k2 : n2 < 2 ^ 31) (k3 : n3 < 2 ^ 31) (k4 : n4 < 2 ^ 31) : xe (ixP fv) (d + 2) 91 0 [some (.ref (b)), some (.int (nI n0)), some (.int (nI n1)), some (.int (nI n2)), some (.int (nI n3)), some (.int (nI n4))] [] (wT h tp T (nI p)) = some (.inl (some (.int (nI (p + 20)))), wT h tp (ap4 (ap4 (ap4 (ap4 (ap4 T p n0) (p + 4) n1) (p + 8) n2) (p + 12) n3) (p + 16) n4) (nI (p + 20))) := by
  have f0 := fun T e ty fin Y => rW_T (fv := fv) (T := T) (e := e) (ty := ty) (fin := fin) (Y := Y) hb h98 hbt
  have f1 := fun T e ty fin Y => rT_1 (fv := fv) (h := h) (tp := tp) (T := T) (e := e) (ty := ty) (fin := fin) (Y := Y) (by omega) ht
  have is := fun T e => isTp (fv := fv) (T := T) (e := e) ht
  have a0 := fun T d => m75 (fv := fv) (d := d) (h := h) (tp := tp) (T := T) (p := p) (n := n0) (by omega) ht (by omega) k0
  have a1 := fun T d => m75 (fv := fv) (d := d) (h := h) (tp := tp) (T := T) (p := p + 4) (n := n1) (by omega) ht (by omega) k1
  have a2 := fun T d => m75 (fv := fv) (d := d) (h := h) (tp := tp) (T := T) (p := p + 8) (n := n2) (by omega) ht (by omega) k2
  have a3 := fun T d => m75 (fv := fv) (d := d) (h := h) (tp := tp) (T := T) (p := p + 12) (n := n3) (by omega) ht (by omega) k3
  have a4 := fun T d => m75 (fv := fv) (d := d) (h := h) (tp := tp) (T := T) (p := p + 16) (n := n4) (by omega) ht (by omega) k4
  simp only [Nat.add_assoc, Nat.reduceAdd] at a0 a1 a2 a3 a4
  have c : nI p ≤ 1980 := nI_le (a := p) (b := 1980) hp (by decide)
  simp only [q91_0, q91_1, q91_4, q91_7, q91_10, q91_23, q91_24, q91_27, q91_28, q91_31, q91_32, q91_35, q91_36, q91_39, q91_40, q91_43, q91_44, q91_47, q91_48, q91_51, q91_53, q91_56, q91_57, q91_60, q91_62, q91_65, q91_66, q91_69, q91_72 (st := []), i10, eq_self, ft0, ft1, b01_ft, k1r, k1i, xG_some, xH_some, xC_v, xC_n, if_true, if_false, not_true_eq_false, not_false_eq_true, ix_st, ix_st2, List.getElem?_cons_succ, List.getElem?_cons_zero, List.set_cons_succ, List.set_cons_zero, Value.category, List.map_cons, List.map_nil, List.sum_cons, List.sum_nil, Nat.reduceAdd, Nat.reduceLeDiff, Nat.reduceEqDiff, Nat.zero_le, reduceCtorEq, ↓reduceIte, eq_self, xit, f0, f1, is, a0, a1, a2, a3, a4, c]
theorem m92 (hb : h[b]? = some (.inr (6, [.ref tp, .ref rd, .ref t, .ref t2, .int lea]))) (h98 : 98 ≤ b) (hbt : b < tp) (ht : tp + 2 ≤ h.length) (hn : n ≤ p) (hp : p ≤ 2000) : xe (ixP fv) d 92 0 [some (.ref (b)), some (.int (nI n))] [] (wT h tp T (nI p)) = some (.inl (some (.int (nI n))), wT h tp T (nI n)) := by
  have f0 := fun T e ty fin Y => rW_T (fv := fv) (T := T) (e := e) (ty := ty) (fin := fin) (Y := Y) hb h98 hbt
  have f1 := fun T e ty fin Y => rT_1 (fv := fv) (h := h) (tp := tp) (T := T) (e := e) (ty := ty) (fin := fin) (Y := Y) (by omega) ht
  have we := fun T e v ini Y => wT_e (fv := fv) (h := h) (tp := tp) (T := T) (e := e) (v := v) (ini := ini) (Y := Y) (by omega) ht
  have c0 : ¬ nI n < 0 := nI_pos (by omega)
  have c1 : nI n ≤ nI p := nI_le hn (by omega)
  simp only [q92_0, q92_1, q92_4, q92_5, q92_6, q92_9, q92_12, q92_25, q92_26, q92_29, q92_30, q92_33, q92_34 (st := []), i10, eq_self, ft0, ft1, b01_ft, k1r, k1i, xG_some, xH_some, xC_v, xC_n, if_true, if_false, not_true_eq_false, not_false_eq_true, ix_st, ix_st2, List.getElem?_cons_succ, List.getElem?_cons_zero, List.set_cons_succ, List.set_cons_zero, Value.category, List.map_cons, List.map_nil, List.sum_cons, List.sum_nil, Nat.reduceAdd, Nat.reduceLeDiff, Nat.reduceEqDiff, Nat.zero_le, reduceCtorEq, ↓reduceIte, eq_self, xit, f0, f1, we, c0, c1]
end ST15
