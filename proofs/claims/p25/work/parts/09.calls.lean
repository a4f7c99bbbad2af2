/-! CALLS. -/
section IXH
variable {P : ix_P} {mi : ix_M} {own : String} {D : va_G} {ad0 : Nat → Nat} {cA : Nat → ClassId} {A : Nat → Prop} {ro : ix_H} {p : Program} {l : Launch} {e : Env} {R : Room} {s : State} {m : MethodId} {args : Array Value} {below : List Frame} {meth : Method} {c : Code} {Q : State → Prop} {n0 s0 pc pc' len nL : Nat} {lv lv' : ix_L} {st st' : List Value} {h h' : ix_H} {ad : Nat → Nat} {H H1 : Heap} {locs locs1 : List Loc} {ls : Array Slot}
/-- a method's room, at a depth, between two heaps -/
def ix_rm (d : Nat) (h h' : ix_H) : Room := { frames := d + 9, cells := h'.length - h.length, slots := ix_sz h' - ix_sz h, locals := 60 * (d + 4) }
/-- what holds at a method's start -/
def ix_B (P : ix_P) (D : va_G) (cA : Nat → ClassId) (ad : Nat → Nat) (ro h : ix_H) (lv : ix_L) (sz : Nat) (U : State) : Prop :=
  U.heap.size = sz ∧ va_P D (ix_CL P) (ix_w ad cA (ix_NR P) h) U.heap ∧ va_K D (ix_CL P) (ix_ty P cA) U ∧ va_D (fun _ => True) (ix_w ad cA (ix_NR P) h) ∧ ix_O P ad (va_A (ix_w ad cA (ix_NR P) h) sz) ro U ∧ h.take (ix_NR P) = ro ∧ ix_NR P ≤ h.length ∧ ix_wf h lv []
/-- what holds at its end, with an answer -/
def ix_QQ (P : ix_P) (D : va_G) (cA : Nat → ClassId) (ad : Nat → Nat) (ro h h' : ix_H) (v : Option Value) (A1 : Nat → Prop) : Array Value → State → Outcome → State → Prop := fun _ st oc t =>
  (∃ ad1 : Nat → Nat, oc = .returned (v.map (ix_v ad1)) ∧ va_P D (ix_CL P) (ix_w ad1 cA (ix_NR P) h') t.heap ∧ va_D A1 (ix_w ad1 cA (ix_NR P) h') ∧ (∀ k, k < h.length → ad1 k = ad k) ∧ ix_wf h' [] v.toList ∧ h'.take (ix_NR P) = ro) ∧ va_F A1 st t
/-- the contract of all methods, for runs of so much fuel -/
def ix_CC (P : ix_P) (l : Launch) (n : Nat) : Prop := ∀ (d mid : Nat) (mi : ix_M) (vs : List Value) (h h' : ix_H) (v : Option Value) (D : va_G) (ad : Nat → Nat) (cA : Nat → ClassId) (ro : ix_H) (sz : Nat), ix_V P = true → (ix_MT P)[mid]? = some mi → (ix_sl vs).length ≤ mi.2.2.2.1 → ix_ex P n d mid 0 (ix_en mi.2.2.2.1 vs) [] h = some (.inl v, h') →
  Met l mi.1 (ix_wM mi :: ix_WL P) (ix_rm d h h') (va_Pc (vs.map (ix_v ad)) (ix_B P D cA ad ro h (ix_en mi.2.2.2.1 vs) sz)) (ix_QQ P D cA ad ro h h' v (va_A (ix_w ad cA (ix_NR P) h) sz)) (h'.length - h.length) (ix_sz h' - ix_sz h) (va_A (ix_w ad cA (ix_NR P) h) sz)
theorem ix_O.gen {ad' : Nat → Nat} {B : Nat → Prop} {U : State} (hO : ix_O P ad A ro s) (hH : ∀ a : Nat, a < s.heap.size → ¬ A a → U.heap[a]? = s.heap[a]?) (hAB : ∀ q, B q → A q) (hvm : s.vm.Alike U.vm) (hvk : ∀ (own tx : String) (i a : Nat), vk_R own i tx a s → vk_R own i tx a U) (had : ∀ k, k < ix_NR P → ad' k = ad k) : ix_O P ad' B ro U := by
  obtain ⟨h1, h2, h3, ⟨h4, h4b, h4c⟩, h5⟩ := hO
  refine ⟨fun k x hx => ?_, fun c i k tx own hm ho => ?_, fun c i g hm => ?_, ⟨h4, ((h4b.kept hH).moved hvm).narrow hAB, ((h4c.kept hH).moved hvm).narrow hAB⟩, h5⟩
  · have hk : k < ix_NR P := by
      rw [← h4]
      exact (List.getElem?_eq_some_iff.mp hx).1
    have h9 := h1 k x hx
    have hwx := h5 x (List.mem_of_getElem? hx)
    obtain ⟨t, n, f | f | f | f | f⟩ | ⟨c, fs⟩ := x
    · obtain ⟨ty, g1, g2⟩ := h9
      refine ⟨ty, g1, ?_⟩
      rw [had k hk]
      exact ((g2.kept hH).moved hvm).narrow hAB
    · exact h9.elim
    · exact h9
    · exact h9.elim
    · exact h9.elim
    · obtain ⟨row, g1, g2, g3⟩ := h9
      refine ⟨row, g1, ?_, fun j v hv => ?_⟩
      · rw [had k hk]
        exact ((g2.kept hH).moved hvm).narrow hAB
      · have g4 := g3 j v hv
        rw [had k hk, ix_v_ad had (hwx v (List.mem_of_getElem? hv))]
        exact ((g4.kept hH).moved hvm).narrow hAB
  · obtain ⟨g1, g2⟩ := h2 c i k tx own hm ho
    refine ⟨g1, ?_⟩
    rw [had k g1]
    exact hvk _ _ _ _ g2
  · obtain ⟨g1, g2⟩ := h3 c i g hm
    refine ⟨g1, ?_⟩
    rw [ix_v_ad had g1]
    exact ((g2.kept hH).moved hvm).narrow hAB
theorem ix_B.blind {lv : ix_L} {sz : Nat} {vs : List Value} : FrameBlind (va_Pc (vs.map (ix_v ad)) (ix_B P D cA ad ro h lv sz)) := fun a U g mk q => by
  obtain ⟨q0, q1, q2, q3, q4, q5, q6⟩ := q
  exact ⟨q0, q1, q2, va_K.moved (u := U) (U := U.calling g mk a) (Vm.Alike.refl U.vm) q3, q4, q5.gen (U := U.calling g mk a) (fun _ _ _ => rfl) (fun _ h => h) (Vm.Alike.refl U.vm) (fun _ _ _ _ h => vk_R.same rfl h) (fun _ _ => rfl), q6⟩
theorem ix_tailM {i : Nat} {x : ix_M} (hm : (ix_MT P)[i]? = some x) (hi : i ≠ 0) : x ∈ (ix_MT P).tail := by
  obtain ⟨j, rfl⟩ : ∃ j, i = j + 1 := ⟨i - 1, by omega⟩
  have : (ix_MT P).tail[j]? = some x := by rw [List.getElem?_tail]; exact hm
  exact List.mem_of_getElem? this
theorem ix_wMin {x : ix_M} (hm : x ∈ (ix_MT P).tail) : ix_wM x ∈ ix_WL P := by
  unfold ix_WL
  simp only [List.mem_append, List.mem_map]
  exact Or.inr (Or.inr (Or.inr (Or.inr (Or.inr (Or.inl ⟨x, hm, rfl⟩)))))
theorem ix_wCin {x : Nat × Nat × ix_K} (hm : x ∈ ix_CT P) : ∀ w ∈ ix_wC P x, w ∈ ix_WL P := fun w hw => by
  unfold ix_WL
  simp only [List.mem_append, List.mem_flatMap]
  exact Or.inr (Or.inr (Or.inr (Or.inr (Or.inl ⟨x, hm, hw⟩))))
theorem ix_ws_all (hts : ∀ w ∈ ix_WL P, w.before args s = true) (hV : ix_V P = true) {me : ix_M} (hm : me ∈ (ix_MT P).tail) : ∀ w ∈ ix_wM me :: ix_WL P, ∀ (a' : Array Value) (U : State), s.WarmedH U.vm → w.before a' U = true := by
  intro w hw a' U hW
  have hin : w ∈ ix_WL P := (List.mem_cons.mp hw).elim (fun q => q ▸ ix_wMin hm) id
  have hk : ix_kw w = true := by
    simp only [ix_V, Bool.and_eq_true, List.all_eq_true] at hV
    exact hV.1.1.1.1.1.1.1 w hin
  exact ix_kw_use hk hW (hts w hin)
/-- behind a call -/
theorem ix_after {cells slots mc ms : Nat} {st0 rest : List Value} {ls : Array Slot} {Qa : State → Outcome → State → Prop} {free A1 : Nat → Prop} (hr : va_Run p l e R s m args below meth c H locs cells slots mc ms (F0 m pc ls st0) rest Qa free) (hS : va_S A s.heap H locs) (hA : ∀ q, A1 q → A q) (hf : ∀ q, free q → A q)
    (hq : ∀ (v : Option Value) (st t : State), st.heap = H → Qa st (.returned v) t → va_F A1 st t)
    (kk : ∀ (v : Option Value) (st t : State) (H1 : Heap) (locs1 : List Loc), st.heap = H → t.heap = H1 → Qa st (.returned v) t → va_S A s.heap H1 locs1 → W p l e R s m args below meth c H1 locs1 (cells + mc) (slots + ms) Q (F0 m (pc + 3) ls (v.toList ++ rest))) : W p l e R s m args below meth c H locs cells slots Q (F0 m pc ls st0) := by
  intro T hT X
  obtain ⟨v, st₀, t, T', L, h0, X', hL, e1, e2, hQa, st⟩ := hr T hT X
  obtain ⟨hz, hk⟩ := hq v st₀ t h0 hQa
  rw [h0] at hz hk
  obtain ⟨t2, a1, b1⟩ := kk v st₀ t T'.heap (locs ++ L) h0 e1.symm hQa
    ⟨Nat.le_trans hS.1 (by rw [e1]; exact hz), fun q h1 h2 => by rw [e1, hk q (Nat.lt_of_lt_of_le h1 hS.1) (fun z => h2 (hA q z))]; exact hS.2.1 q h1 h2, fun q hq => by
      rcases List.mem_append.mp hq with h | h
      · exact hS.2.2 q h
      · exact hf _ (hL q h)⟩ T' rfl X'
  exact ⟨t2, st t2 a1, b1⟩
theorem ix_s2_eq {i ins : Nat} {kx : ix_K} {me : ix_M} {as rest : List Value} (q : ix_s2 P mi st h i ins = some (kx, me, as, rest)) : (mi.2.1, i, kx) ∈ ix_CT P ∧ (ix_MT P)[kx.2.1]? = some me ∧ kx.1 % 3 = ins ∧ me.2.2.2.2.2.1 ≤ st.length ∧ (rest.map Value.category).sum ≤ 8 ∧ (ix_sl as).length ≤ me.2.2.2.1 ∧ st = as.reverse ++ rest ∧ as.length = me.2.2.2.2.2.1 ∧
    (kx.1 % 3 = 1 ∨ ∃ (o : Nat) (as' : List Value), as = .ref o :: as' ∧ ix_is P h o kx.2.2.1 = true) := by
  unfold ix_s2 at q
  split at q
  · cases q
  · next k0 hk0 =>
    split at q
    · cases q
    · next me0 hme0 =>
      have q := Option.ite_none_right_eq_some.mp q
      obtain ⟨⟨c1, c2, c3, c4, c5⟩, q⟩ := q
      · cases q
        refine ⟨ix_fd_mem hk0, hme0, c1, c2, c3, c4, by rw [List.reverse_reverse, List.take_append_drop], by rw [List.length_reverse, List.length_take]; omega, ?_⟩
        rcases c5 with c5 | c5
        · exact Or.inl c5
        · right
          split at c5
          · next o hso =>
            simp only [Bool.and_eq_true, decide_eq_true_eq] at c5
            obtain ⟨c5, c6⟩ := c5
            have h9 : (st.take me.2.2.2.2.2.1).reverse[0]? = some (.ref o) := by
              rw [List.getElem?_reverse (by rw [List.length_take]; omega), List.length_take, List.getElem?_take_of_lt (by omega)]
              rw [show min me.2.2.2.2.2.1 st.length - 1 - 0 = me.2.2.2.2.2.1 - 1 by omega]
              exact hso
            cases hz : (st.take me.2.2.2.2.2.1).reverse with
            | nil => rw [hz] at h9; cases h9
            | cons a as' =>
              rw [hz] at h9
              cases h9
              exact ⟨o, as', rfl, c6⟩
          · cases c5
/-- the receiver's class -/
theorem ix_recv {o : Nat} {C : String} (X : ix_X P mi own D ad0 cA A ro p s m args meth c) (hI : ix_I P D ad0 cA A ro s n0 s0 ad h H locs) (hc : ix_is P h o C = true) : (∃ cell : Cell, H[ad o]? = some cell ∧ cell.vm.isStatics = false ∧ s.vm.findClass C = some cell.cls) ∧ ∃ cC : ClassId, ClassAt s C cC := by
  obtain ⟨hx, hb, hml, hr, hlocks, hon, hown, hini, hK, hts, hV, hA, hO⟩ := X
  unfold ix_is at hc
  split at hc
  · next cc fs ho =>
    split at hc
    · next row hrow =>
      have hC : row.1 = C := by simpa using hc
      subst hC
      refine ⟨?_, _, (hK.1 _ _ hrow).2⟩
      by_cases hn : ix_NR P ≤ o
      · exact va_recv hK hI.1 hrow (ix_w_get (ad := ad) (cA := cA) ho hn)
      · have hold := hI.old (Nat.lt_of_not_le hn) ho
        obtain ⟨r2, g1, g2, -⟩ := hO.1 _ _ hold.1
        rw [hrow] at g1
        cases g1
        rw [← hold.2] at g2
        obtain ⟨cell, k1, k2, k3, -⟩ := g2.kept hI.2.2.1.2.1
        exact ⟨cell, k1, k2, k3⟩
    · cases hc
  · cases hc

end IXH
