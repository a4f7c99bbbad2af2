/-! THE LAW: its grids. -/
def isG (H : ix_H) (o m k : Nat) (F : Nat → Nat → Int32) : Prop := H[o]? = some (.inl (5, m, .inr (.inr (.inr (.inr (fun j => if j < m then some (o + 1 + j) else none)))))) ∧ ∀ j, j < m → H[o + 1 + j]? = some (.inl (0, k, .inl (F j)))
def upg (F : Nat → Nat → Int32) (p j : Nat) (v : Int32) : Nat → Nat → Int32 := fun p' => if p' = p then upd (F p) j v else F p'
section GRID
variable {fv : Value} {H : ix_H} {o m k p j : Nat} {F : Nat → Nat → Int32} {v : Int32}
theorem isG_new : isG (H ++ ix_gr H.length m k) H.length m k (fun _ _ => 0) := by
  refine ⟨?_, fun j hj => ?_⟩
  · rw [List.getElem?_append_right (Nat.le_refl _), Nat.sub_self]
    rfl
  · rw [List.getElem?_append_right (by omega), show H.length + 1 + j - H.length = j + 1 by omega]
    show (List.replicate m _)[j]? = _
    rw [List.getElem?_replicate, if_pos hj]
theorem gr_len : (H ++ ix_gr H.length m k).length = H.length + m + 1 := by
  rw [List.length_append]
  show H.length + (List.replicate m _).length.succ = _
  rw [List.length_replicate]
  omega
theorem gr_rep : ∀ m : Nat, ix_sz (List.replicate m (.inl (0, k, .inl (fun _ => 0)))) = m * k
  | 0 => by rw [Nat.zero_mul]; rfl
  | m + 1 => by
    show k + ix_sz (List.replicate m _) = _
    rw [gr_rep m, Nat.succ_mul]
    omega
theorem gr_sz : ix_sz (H ++ ix_gr H.length m k) = ix_sz H + m + m * k := by
  have h : ix_sz (ix_gr H.length m k) = m + m * k := by
    show m + ix_sz (List.replicate m _) = _
    rw [gr_rep]
  have e : ∀ a b : ix_H, ix_sz (a ++ b) = ix_sz a + ix_sz b := fun a b => by
    unfold ix_sz
    rw [List.map_append, List.sum_append]
  rw [e, h]
  omega
theorem rQ_g (g : isG H o m k F) (ho : 98 ≤ o) (hp : p < m) (hm : m ≤ 50000) : rQ (ixP fv) H o (nI p) = some (.ref (o + 1 + p)) := by
  unfold rQ ix_aq
  rw [g.1]
  refine (if_pos ⟨ho, rfl, in_big hp (by omega)⟩).trans ?_
  rw [nI_clamp (by omega)]
  show some (ix_rf (if p < m then some (o + 1 + p) else none)) = _
  rw [if_pos hp]
  rfl
theorem rA_g (g : isG H o m k F) (hp : p < m) (hj : j < k) (hk : k ≤ 50000) : rA H (o + 1 + p) (nI j) = some (.int (F p j)) := by
  rw [rA_of (g.2 p hp) (in_big hj (by omega)), nI_clamp (by omega)]
theorem wA_g (g : isG H o m k F) (ho : 98 ≤ o) (hp : p < m) (hj : j < k) (hk : k ≤ 50000) : wA (ixP fv) H (o + 1 + p) (nI j) v = some (H.set (o + 1 + p) (.inl (0, k, .inl (upd (F p) j v)))) := by
  rw [wA_of (g.2 p hp) (by omega) (in_big hj (by omega)), nI_clamp (by omega)]
theorem isG_set (g : isG H o m k F) (hp : p < m) : isG (H.set (o + 1 + p) (.inl (0, k, .inl (upd (F p) j v)))) o m k (upg F p j v) := by
  refine ⟨by rw [List.getElem?_set_ne (by omega)]; exact g.1, fun p' hp' => ?_⟩
  unfold upg
  by_cases e : p' = p
  · subst e
    rw [get_set (g.2 p' hp'), if_pos rfl]
  · rw [List.getElem?_set_ne (by omega), if_neg e]
    exact g.2 p' hp'
/-- the same in another heap -/
theorem isG_of {H' : ix_H} (g : isG H o m k F) (h : ∀ q, o ≤ q → q < H.length → H'[q]? = H[q]?) : isG H' o m k F := ⟨by rw [h o (Nat.le_refl _) (lt_of g.1)]; exact g.1, fun j hj => by rw [h _ (by omega) (lt_of (g.2 j hj))]; exact g.2 j hj⟩
theorem set_sz {x y : ix_C} (e : H[p]? = some x) (h : ix_cs y = ix_cs x) : ix_sz (H.set p y) = ix_sz H := ix_sz_set H p x y e h
end GRID
