/-! THE START: a token read (written by gen999989.py). -/
def hd (bs : List Int32) : Int32 := bs.getD 0 0
def dgs10 (v : Int64) (x : Int32) : Int64 := v * 10 + (x - 48).toInt64
/-- a token's value, its kind, whether it is one, whether it ends ahead of a sign -/
def lexV (bs : List Int32) : Int64 := if isLt (hd bs) = true then bs.foldl spl 0 else if isDg (hd bs) = true then bs.foldl dgs10 0 else 0
def lexK (K : Nat → Int64) (bs : List Int32) : Int32 := if isLt (hd bs) = true then kow K (lexV bs) else if isDg (hd bs) = true then 48 else if bs.length = 2 then hd bs + 256 else hd bs
def lexOK (bs : List Int32) : Bool := if isLt (hd bs) = true then decide (bs.length ≤ 10) && bs.all isWd else if isDg (hd bs) = true then decide (bs.length ≤ 6) && bs.all isDg else decide (bs = [62, 61]) || (decide (bs.length = 1) && isSy (hd bs))
def sepOK (bs : List Int32) (x : Int32) : Bool := if isLt (hd bs) = true ∨ isDg (hd bs) = true then !isWd x else if bs.length = 1 ∧ (hd bs = 60 ∨ hd bs = 62) then decide (x ≠ 61) else true
/-- the signs stand there -/
def atT (l : List Int32) (p : Nat) (bs : List Int32) : Prop := ∀ j, j < bs.length → bs[j]? = some (chr l (p + j))
section LEX1
variable {fv : Value} {d : Nat} {h : ix_H} {r pl tp p n k i j m q : Nat} {N Q : Mem} {L : Jem} {T : Nat → Int32} {x v w : Int32} {l bs : List Int32} {z : Int64}
theorem jm_jm {a b : Int64} : jm (jm L 0 0 a) 0 0 b = jm L 0 0 b := by
  funext k
  unfold jm
  split
  · next h =>
    subst h
    funext i
    unfold vp_updL
    split <;> rfl
  · rfl
theorem jm_00 {a : Int64} : jm L 0 0 a 0 0 = a := by
  unfold jm vp_updL
  rw [if_pos rfl]
  simp
theorem jm_1 {a : Int64} : jm L 0 0 a 1 = L 1 := rfl
theorem chr_i (h : chr l p = x) (hx : ¬ x = -1) : p < l.length := by
  unfold chr at h
  split at h
  · assumption
  · exact absurd h.symm hx
theorem isTpW (g : gR h r pl) (t : tpW h tp T l) (ht : tp + 2 ≤ r) : ix_is (ixP fv) (wR h r pl N L Q) tp "SkylightWash$Tape" = true := is_of ((wR_o g (by omega)).trans t.2.1) (by decide +kernel)
/-- blanks -/
theorem m79 (g : gR h r pl) (t : tpW h tp T l) (ht : tp + 2 ≤ r) (h1 : ∀ j, j < m → isBl (chr l (p + j)) = true) (h2 : isBl (chr l (p + m)) = false) (hm : p + m ≤ 1950) : xe (ixP fv) (d + 2) 79 0 [some (.ref (r + 1)), some (.ref (tp)), some (.int (nI p)), none] [] (wR h r pl N L Q) = some (.inl (some (.int (nI (p + m)))), (wR h r pl N L Q)) := by
  have step : ∀ k j, j + k = m → xe (ixP fv) (d + 2) 79 2 [some (.ref (r + 1)), some (.ref (tp)), some (.int (nI p)), some (.int (nI (p + j)))] [] (wR h r pl N L Q) = some (.inl (some (.int (nI (p + m)))), (wR h r pl N L Q)) := by
    intro k
    induction k with
    | zero =>
      intro j hj
      have : j = m := by omega
      subst this
      have c1 : ¬ (2000 : Int32) ≤ nI (p + j) := show ¬ nI 2000 ≤ nI (p + j) from nI_ge (by omega) (by decide)
      have e1 := fun d => m76 (fv := fv) (d := d) (N := N) (L := L) (Q := Q) (i := p + j) g t ht (by omega)
      have e2 := fun d => m85 (fv := fv) (d := d) (x := chr l (p + j)) (H := (wR h r pl N L Q))
      rw [h2] at e2
      simp only [b01_f] at e2
      simp only [q79_2 (x := nI (p + j)), q79_3, q79_6, q79_9, q79_10, q79_11, q79_14, q79_17, q79_26, q79_27 (st := []), i10, eq_self, ft0, ft1, b01_ft, k1r, k1i, xG_some, xH_some, xC_v, xC_n, if_true, if_false, not_true_eq_false, not_false_eq_true, ix_st, ix_st2, List.getElem?_cons_succ, List.getElem?_cons_zero, List.set_cons_succ, List.set_cons_zero, Value.category, List.map_cons, List.map_nil, List.sum_cons, List.sum_nil, Nat.reduceAdd, Nat.reduceLeDiff, Nat.reduceEqDiff, Nat.zero_le, reduceCtorEq, ↓reduceIte, eq_self, xit, c1, e1, e2, isTpW g t ht]
    | succ k ih =>
      intro j hj
      have c1 : ¬ (2000 : Int32) ≤ nI (p + j) := show ¬ nI 2000 ≤ nI (p + j) from nI_ge (by omega) (by decide)
      have e1 := fun d => m76 (fv := fv) (d := d) (N := N) (L := L) (Q := Q) (i := p + j) g t ht (by omega)
      have e2 := fun d => m85 (fv := fv) (d := d) (x := chr l (p + j)) (H := (wR h r pl N L Q))
      rw [h1 j (by omega)] at e2
      simp only [b01_t] at e2
      have ek : nI (p + j) + 1 = nI (p + (j + 1)) := nI_add _ 1
      refine Eq.trans ?_ (ih (j + 1) (by omega))
      simp only [q79_2 (x := nI (p + j)), q79_3, q79_6, q79_9, q79_10, q79_11, q79_14, q79_17, q79_20, q79_23, i10, eq_self, ft0, ft1, b01_ft, k1r, k1i, xG_some, xH_some, xC_v, xC_n, if_true, if_false, not_true_eq_false, not_false_eq_true, ix_st, ix_st2, List.getElem?_cons_succ, List.getElem?_cons_zero, List.set_cons_succ, List.set_cons_zero, Value.category, List.map_cons, List.map_nil, List.sum_cons, List.sum_nil, Nat.reduceAdd, Nat.reduceLeDiff, Nat.reduceEqDiff, Nat.zero_le, reduceCtorEq, ↓reduceIte, eq_self, xit, c1, e1, e2, ek, isTpW g t ht]
  refine Eq.trans ?_ (step m 0 (by omega))
  simp only [q79_0, q79_1, i10, eq_self, ft0, ft1, b01_ft, k1r, k1i, xG_some, xH_some, xC_v, xC_n, if_true, if_false, not_true_eq_false, not_false_eq_true, ix_st, ix_st2, List.getElem?_cons_succ, List.getElem?_cons_zero, List.set_cons_succ, List.set_cons_zero, Value.category, List.map_cons, List.map_nil, List.sum_cons, List.sum_nil, Nat.reduceAdd, Nat.reduceLeDiff, Nat.reduceEqDiff, Nat.zero_le, reduceCtorEq, ↓reduceIte, eq_self, xit]
  rfl
theorem fold_take {α : Type} {f : α → Int32 → α} {a : α} (h : bs[j]? = some x) : (bs.take (j + 1)).foldl f a = f ((bs.take j).foldl f a) x := by
  rw [List.take_add_one, h, List.foldl_append]
  rfl
/-- a word -/
theorem m81 (g : gR h r pl) (t : tpW h tp T l) (ht : tp + 2 ≤ r) (hb : atT l p bs) (hl : bs.length ≤ 10) (hp : p ≤ 1950) (h1 : ∀ (j : Nat) (x : Int32), bs[j]? = some x → isWd x = true) (h2 : isWd (chr l (p + bs.length)) = false) : xe (ixP fv) (d + 2) 81 0 [some (.ref (r + 1)), some (.ref (tp)), some (.int (nI p)), none] [] (wR h r pl N (jm L 0 0 (0)) Q) = some (.inl (some (.int (nI (p + bs.length)))), (wR h r pl (sm N 0 5 (kow (L 1) (bs.foldl spl 0))) (jm L 0 0 (bs.foldl spl 0)) Q)) := by
  have step : ∀ k j, j + k = bs.length → xe (ixP fv) (d + 2) 81 2 [some (.ref (r + 1)), some (.ref (tp)), some (.int (nI p)), some (.int (nI (p + j)))] [] (wR h r pl N (jm L 0 0 ((bs.take j).foldl spl 0)) Q) = some (.inl (some (.int (nI (p + bs.length)))), (wR h r pl (sm N 0 5 (kow (L 1) (bs.foldl spl 0))) (jm L 0 0 (bs.foldl spl 0)) Q)) := by
    intro k
    induction k with
    | zero =>
      intro j hj
      have : j = bs.length := by omega
      subst this
      rw [List.take_length]
      have a1 : nI (p + bs.length) - nI p = nI bs.length := (pk_sub (a := p + bs.length) (b := p) (by omega)).trans (by congr 1; omega)
      have c1 : ¬ (10 : Int32) < nI bs.length := show ¬ nI 10 < nI bs.length from nI_nlt (by omega) (by decide)
      have c2 : nI bs.length ≤ 10 := show nI bs.length ≤ nI 10 from nI_le (by omega) (by decide)
      have e1 := fun d => m76 (fv := fv) (d := d) (N := N) (L := (jm L 0 0 (bs.foldl spl 0))) (Q := Q) (i := p + bs.length) g t ht (by omega)
      have e2 := fun d => m88 (fv := fv) (d := d) (x := chr l (p + bs.length)) (H := (wR h r pl N (jm L 0 0 (bs.foldl spl 0)) Q))
      rw [h2] at e2
      simp only [b01_f] at e2
      have e3 := fun d => m83 (fv := fv) (d := d) (N := N) (L := (jm L 0 0 (bs.foldl spl 0))) (Q := Q) (z := bs.foldl spl 0) g
      rw [jm_1] at e3
      have f5 := fun ty fin Y => rT5' (fv := fv) (N := N) (L := (jm L 0 0 (bs.foldl spl 0))) (Q := Q) (ty := ty) (fin := fin) (X := Y) g
      rw [jm_00] at f5
      have w4 := fun v Y ini => wTf4 (fv := fv) (N := N) (L := (jm L 0 0 (bs.foldl spl 0))) (Q := Q) (v := v) (X := Y) (ini := ini) g
      have is1 := isRT (fv := fv) (N := N) (L := (jm L 0 0 (bs.foldl spl 0))) (Q := Q) g
      simp only [q81_2 (x := nI (p + bs.length)), q81_3, q81_4, q81_5, q81_7, q81_10, q81_11, q81_12, q81_15, q81_18, q81_43, q81_44, q81_45, q81_46, q81_47, q81_49, q81_52, q81_53, q81_56, q81_57, q81_58, q81_61, q81_64, q81_67, q81_68 (st := []), i10, eq_self, ft0, ft1, b01_ft, k1r, k1i, xG_some, xH_some, xC_v, xC_n, if_true, if_false, not_true_eq_false, not_false_eq_true, ix_st, ix_st2, List.getElem?_cons_succ, List.getElem?_cons_zero, List.set_cons_succ, List.set_cons_zero, Value.category, List.map_cons, List.map_nil, List.sum_cons, List.sum_nil, Nat.reduceAdd, Nat.reduceLeDiff, Nat.reduceEqDiff, Nat.zero_le, reduceCtorEq, ↓reduceIte, eq_self, xit, a1, c1, c2, e1, e2, e3, f5, w4, is1, isTpW g t ht]
    | succ k ih =>
      intro j hj
      obtain ⟨x, hx⟩ : ∃ x, bs[j]? = some x := ⟨_, List.getElem?_eq_getElem (by omega)⟩
      have hc := (hb j (by omega)).symm.trans hx
      have hc := Option.some.inj hc
      have a1 : nI (p + j) - nI p = nI j := (pk_sub (a := p + j) (b := p) (by omega)).trans (by congr 1; omega)
      have c1 : ¬ (10 : Int32) < nI j := show ¬ nI 10 < nI j from nI_nlt (by omega) (by decide)
      have e1 := fun L d => m76 (fv := fv) (d := d) (N := N) (L := L) (Q := Q) (i := p + j) g t ht (by omega)
      rw [hc] at e1
      have e2 := fun H d => m88 (fv := fv) (d := d) (x := x) (H := H)
      rw [h1 j x hx] at e2
      simp only [b01_t] at e2
      have f5 := fun ty fin Y => rT5' (fv := fv) (N := N) (L := (jm L 0 0 ((bs.take j).foldl spl 0))) (Q := Q) (ty := ty) (fin := fin) (X := Y) g
      rw [jm_00] at f5
      have e3 := fun H d => m84 (fv := fv) (d := d) (w := (bs.take j).foldl spl 0) (x := x) (H := H)
      have w5 := fun v Y ini => wTf5 (fv := fv) (N := N) (L := (jm L 0 0 ((bs.take j).foldl spl 0))) (Q := Q) (z := v) (X := Y) (ini := ini) g
      have ek : nI (p + j) + 1 = nI (p + (j + 1)) := nI_add _ 1
      have ef : spl ((bs.take j).foldl spl 0) x = (bs.take (j + 1)).foldl spl 0 := (fold_take hx).symm
      refine Eq.trans ?_ (ih (j + 1) (by omega))
      simp only [q81_2 (x := nI (p + j)), q81_3, q81_4, q81_5, q81_7, q81_10, q81_11, q81_12, q81_15, q81_18, q81_21, q81_22, q81_23, q81_26, q81_27, q81_28, q81_31, q81_34, q81_37, q81_40, i10, eq_self, ft0, ft1, b01_ft, k1r, k1i, xG_some, xH_some, xC_v, xC_n, if_true, if_false, not_true_eq_false, not_false_eq_true, ix_st, ix_st2, List.getElem?_cons_succ, List.getElem?_cons_zero, List.set_cons_succ, List.set_cons_zero, Value.category, List.map_cons, List.map_nil, List.sum_cons, List.sum_nil, Nat.reduceAdd, Nat.reduceLeDiff, Nat.reduceEqDiff, Nat.zero_le, reduceCtorEq, ↓reduceIte, eq_self, xit, a1, c1, e1, e2, e3, f5, w5, jm_jm, ek, ef, isTpW g t ht]
  refine Eq.trans ?_ (step bs.length 0 (by omega))
  simp only [q81_0, q81_1, i10, eq_self, ft0, ft1, b01_ft, k1r, k1i, xG_some, xH_some, xC_v, xC_n, if_true, if_false, not_true_eq_false, not_false_eq_true, ix_st, ix_st2, List.getElem?_cons_succ, List.getElem?_cons_zero, List.set_cons_succ, List.set_cons_zero, Value.category, List.map_cons, List.map_nil, List.sum_cons, List.sum_nil, Nat.reduceAdd, Nat.reduceLeDiff, Nat.reduceEqDiff, Nat.zero_le, reduceCtorEq, ↓reduceIte, eq_self, xit]
  rfl
/-- a number -/
theorem m82 (g : gR h r pl) (t : tpW h tp T l) (ht : tp + 2 ≤ r) (hb : atT l p bs) (hl : bs.length ≤ 6) (hp : p ≤ 1950) (h1 : ∀ (j : Nat) (x : Int32), bs[j]? = some x → isDg x = true) (h2 : isDg (chr l (p + bs.length)) = false) : xe (ixP fv) (d + 2) 82 0 [some (.ref (r + 1)), some (.ref (tp)), some (.int (nI p)), none] [] (wR h r pl N (jm L 0 0 (0)) Q) = some (.inl (some (.int (nI (p + bs.length)))), (wR h r pl (sm N 0 5 48) (jm L 0 0 (bs.foldl dgs10 0)) Q)) := by
  have step : ∀ k j, j + k = bs.length → xe (ixP fv) (d + 2) 82 2 [some (.ref (r + 1)), some (.ref (tp)), some (.int (nI p)), some (.int (nI (p + j)))] [] (wR h r pl N (jm L 0 0 ((bs.take j).foldl dgs10 0)) Q) = some (.inl (some (.int (nI (p + bs.length)))), (wR h r pl (sm N 0 5 48) (jm L 0 0 (bs.foldl dgs10 0)) Q)) := by
    intro k
    induction k with
    | zero =>
      intro j hj
      have : j = bs.length := by omega
      subst this
      rw [List.take_length]
      have a1 : nI (p + bs.length) - nI p = nI bs.length := (pk_sub (a := p + bs.length) (b := p) (by omega)).trans (by congr 1; omega)
      have c1 : ¬ (6 : Int32) < nI bs.length := show ¬ nI 6 < nI bs.length from nI_nlt (by omega) (by decide)
      have c2 : nI bs.length ≤ 6 := show nI bs.length ≤ nI 6 from nI_le (by omega) (by decide)
      have e1 := fun d => m76 (fv := fv) (d := d) (N := N) (L := (jm L 0 0 (bs.foldl dgs10 0))) (Q := Q) (i := p + bs.length) g t ht (by omega)
      have e2 := fun d => m87 (fv := fv) (d := d) (x := chr l (p + bs.length)) (H := (wR h r pl N (jm L 0 0 (bs.foldl dgs10 0)) Q))
      rw [h2] at e2
      simp only [b01_f] at e2
      have w4 := fun v Y ini => wTf4 (fv := fv) (N := N) (L := (jm L 0 0 (bs.foldl dgs10 0))) (Q := Q) (v := v) (X := Y) (ini := ini) g
      simp only [q82_2 (x := nI (p + bs.length)), q82_3, q82_4, q82_5, q82_7, q82_10, q82_11, q82_12, q82_15, q82_18, q82_49, q82_50, q82_51, q82_52, q82_53, q82_55, q82_58, q82_59, q82_62, q82_64, q82_67, q82_68 (st := []), i10, eq_self, ft0, ft1, b01_ft, k1r, k1i, xG_some, xH_some, xC_v, xC_n, if_true, if_false, not_true_eq_false, not_false_eq_true, ix_st, ix_st2, List.getElem?_cons_succ, List.getElem?_cons_zero, List.set_cons_succ, List.set_cons_zero, Value.category, List.map_cons, List.map_nil, List.sum_cons, List.sum_nil, Nat.reduceAdd, Nat.reduceLeDiff, Nat.reduceEqDiff, Nat.zero_le, reduceCtorEq, ↓reduceIte, eq_self, xit, a1, c1, c2, e1, e2, w4, isTpW g t ht]
    | succ k ih =>
      intro j hj
      obtain ⟨x, hx⟩ : ∃ x, bs[j]? = some x := ⟨_, List.getElem?_eq_getElem (by omega)⟩
      have hc := (hb j (by omega)).symm.trans hx
      have hc := Option.some.inj hc
      have a1 : nI (p + j) - nI p = nI j := (pk_sub (a := p + j) (b := p) (by omega)).trans (by congr 1; omega)
      have c1 : ¬ (6 : Int32) < nI j := show ¬ nI 6 < nI j from nI_nlt (by omega) (by decide)
      have e1 := fun L d => m76 (fv := fv) (d := d) (N := N) (L := L) (Q := Q) (i := p + j) g t ht (by omega)
      rw [hc] at e1
      have e2 := fun H d => m87 (fv := fv) (d := d) (x := x) (H := H)
      rw [h1 j x hx] at e2
      simp only [b01_t] at e2
      have f5 := fun ty fin Y => rT5' (fv := fv) (N := N) (L := (jm L 0 0 ((bs.take j).foldl dgs10 0))) (Q := Q) (ty := ty) (fin := fin) (X := Y) g
      rw [jm_00] at f5
      have w5 := fun v Y ini => wTf5 (fv := fv) (N := N) (L := (jm L 0 0 ((bs.take j).foldl dgs10 0))) (Q := Q) (z := v) (X := Y) (ini := ini) g
      have ek : nI (p + j) + 1 = nI (p + (j + 1)) := nI_add _ 1
      have ef : (bs.take j).foldl dgs10 0 * 10 + (x - 48).toInt64 = (bs.take (j + 1)).foldl dgs10 0 := (fold_take (f := dgs10) hx).symm
      refine Eq.trans ?_ (ih (j + 1) (by omega))
      simp only [q82_2 (x := nI (p + j)), q82_3, q82_4, q82_5, q82_7, q82_10, q82_11, q82_12, q82_15, q82_18, q82_21, q82_22, q82_23, q82_26, q82_29, q82_30, q82_31, q82_32, q82_35, q82_37, q82_38, q82_39, q82_40, q82_43, q82_46, i10, eq_self, ft0, ft1, b01_ft, k1r, k1i, xG_some, xH_some, xC_v, xC_n, if_true, if_false, not_true_eq_false, not_false_eq_true, ix_st, ix_st2, List.getElem?_cons_succ, List.getElem?_cons_zero, List.set_cons_succ, List.set_cons_zero, Value.category, List.map_cons, List.map_nil, List.sum_cons, List.sum_nil, Nat.reduceAdd, Nat.reduceLeDiff, Nat.reduceEqDiff, Nat.zero_le, reduceCtorEq, ↓reduceIte, eq_self, xit, a1, c1, e1, e2, f5, w5, jm_jm, ek, ef, isTpW g t ht]
  refine Eq.trans ?_ (step bs.length 0 (by omega))
  simp only [q82_0, q82_1, i10, eq_self, ft0, ft1, b01_ft, k1r, k1i, xG_some, xH_some, xC_v, xC_n, if_true, if_false, not_true_eq_false, not_false_eq_true, ix_st, ix_st2, List.getElem?_cons_succ, List.getElem?_cons_zero, List.set_cons_succ, List.set_cons_zero, Value.category, List.map_cons, List.map_nil, List.sum_cons, List.sum_nil, Nat.reduceAdd, Nat.reduceLeDiff, Nat.reduceEqDiff, Nat.zero_le, reduceCtorEq, ↓reduceIte, eq_self, xit]
  rfl
end LEX1
