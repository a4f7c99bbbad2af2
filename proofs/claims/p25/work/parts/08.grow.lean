/-! HEAPS GROW. -/
section IXH
variable {P : ix_P} {mi : ix_M} {own : String} {D : va_G} {ad0 : Nat → Nat} {cA : Nat → ClassId} {A : Nat → Prop} {ro : ix_H} {p : Program} {l : Launch} {e : Env} {R : Room} {s : State} {m : MethodId} {args : Array Value} {below : List Frame} {meth : Method} {c : Code} {Q : State → Prop} {n0 s0 pc pc' len nL : Nat} {lv lv' : ix_L} {st st' : List Value} {h h' : ix_H} {ad : Nat → Nat} {H H1 : Heap} {locs locs1 : List Loc} {ls : Array Slot}
def ix_gm (h h1 : ix_H) : Prop := h.length ≤ h1.length ∧ ix_sz h ≤ ix_sz h1
theorem ix_gm.rf : ix_gm h h := ⟨Nat.le_refl _, Nat.le_refl _⟩
theorem ix_gm.tr {h2 : ix_H} (a : ix_gm h h') (b : ix_gm h' h2) : ix_gm h h2 := ⟨Nat.le_trans a.1 b.1, Nat.le_trans a.2 b.2⟩
theorem ix_gm.set {o : Nat} {x y : ix_C} (hy : h[o]? = some y) (hsz : ix_cs x = ix_cs y) : ix_gm h (h.set o x) := ⟨by rw [List.length_set]; exact Nat.le_refl _, by rw [ix_sz_set h o y x hy hsz]; exact Nat.le_refl _⟩
theorem ix_gm.app {h1 : ix_H} : ix_gm h (h ++ h1) := ⟨by rw [List.length_append]; exact Nat.le_add_right _ _, by rw [ix_sz_app]; exact Nat.le_add_right _ _⟩
theorem ix_gm.go {h1 : ix_H} (q : ix_go pc lv st h = some (.inl (pc', lv', st', h1))) : ix_gm h h1 := by
  obtain ⟨rfl, rfl, rfl, rfl⟩ := ix_go_eq q
  exact ix_gm.rf
theorem ix_gm.gs {h1 : ix_H} {o : Nat} {x y : ix_C} (hy : h[o]? = some y) (q : ix_go pc lv st (h.set o x) = some (.inl (pc', lv', st', h1))) (hsz : ix_cs x = ix_cs y) : ix_gm h h1 := by
  obtain ⟨rfl, rfl, rfl, rfl⟩ := ix_go_eq q
  exact ix_gm.set hy hsz
theorem ix_gm.ga {h1 h2 : ix_H} (q : ix_go pc lv st (h ++ h2) = some (.inl (pc', lv', st', h1))) : ix_gm h h1 := by
  obtain ⟨rfl, rfl, rfl, rfl⟩ := ix_go_eq q
  exact ix_gm.app
set_option maxHeartbeats 4000000 in
theorem ix_s1_gm {ins : Instr} {h1 : ix_H} (q : ix_s1 P mi pc lv st h len ins = some (.inl (pc', lv', st', h1))) : ix_gm h h1 := by
  unfold ix_s1 at q
  split at q
  all_goals try simp only [ix_i, ix_ii, ix_l, ix_ll, ix_d, ix_dd, ix_r, ix_a, ix_ir, ix_iir, ix_lir, ix_rir, ix_vr, ix_ob, ix_ai, ix_all, ix_aq, ix_ar, ix_ld, ix_sv, ix_sv2, ix_br, ix_rt, ix_cy] at q
  all_goals repeat' (split at q)
  all_goals first
    | (cases q; done)
    | exact ix_gm.go q
    | exact ix_gm.ga q
    | exact ix_gm.gs (by assumption) q rfl
    | exact ix_gm.gs (by assumption) q (by simp [ix_cs])
theorem ix_rt_h {ret : Option FieldType} {r : Option Value ⊕ Nat} {h1 : ix_H} (q : ix_rt ret st h = some (.inr (r, h1))) : h1 = h := by
  unfold ix_rt at q
  split at q
  · split at q
    · cases q
      rfl
    · cases q
  · cases q
theorem ix_go_r {x : (Option Value ⊕ Nat) × ix_H} (q : ix_go pc lv st h = some (.inr x)) : False := by
  unfold ix_go at q
  cases q
set_option maxHeartbeats 4000000 in
theorem ix_s1_end {ins : Instr} {r : Option Value ⊕ Nat} {h1 : ix_H} (q : ix_s1 P mi pc lv st h len ins = some (.inr (r, h1))) : h1 = h := by
  unfold ix_s1 at q
  split at q
  all_goals try simp only [ix_i, ix_ii, ix_l, ix_ll, ix_d, ix_dd, ix_r, ix_a, ix_ir, ix_iir, ix_lir, ix_rir, ix_vr, ix_ob, ix_ai, ix_all, ix_aq, ix_ar, ix_ld, ix_sv, ix_sv2, ix_br, ix_cy] at q
  all_goals repeat' (split at q)
  all_goals first
    | exact (ix_go_r q).elim
    | exact ix_rt_h q
    | (cases q; rfl)
    | (cases q; done)
theorem ix_tw_gm {mid : Nat} {ins : Instr} {r : Option Value ⊕ Nat} {h1 : ix_H} (q : ix_tw P mid pc st h ins = some (r, h1)) : ix_gm h h1 := by
  unfold ix_tw at q
  split at q
  · split at q
    · cases (Option.ite_none_right_eq_some.mp q).2
      exact ix_gm.app
    · cases q
  · cases q
theorem ix_ex_gm : ∀ (n d mid pc : Nat) (lv : ix_L) (st : List Value) (h : ix_H) (r : Option Value ⊕ Nat) (h1 : ix_H), ix_ex P n d mid pc lv st h = some (r, h1) → ix_gm h h1
  | 0, _, _, _, _, _, _, _, _, q => by cases q
  | n + 1, d, mid, pc, lv, st, h, r, h1, q => by
    unfold ix_ex at q
    split at q
    · cases q
    · split at q
      · cases q
      · split at q
        · next r0 hr0 =>
          cases q
          exact ix_tw_gm hr0
        · split at q
          · split at q
            · cases q
            · split at q
              · next hc =>
                exact (ix_ex_gm n _ _ _ _ _ _ _ _ hc).tr (ix_ex_gm n _ _ _ _ _ _ _ _ q)
              · next hc =>
                split at q
                · exact (ix_ex_gm n _ _ _ _ _ _ _ _ hc).tr (ix_ex_gm n _ _ _ _ _ _ _ _ q)
                · cases q
              · cases q
          · split at q
            · next hs =>
              exact (ix_s1_gm hs).tr (ix_ex_gm n _ _ _ _ _ _ _ _ q)
            · next hs =>
              cases q
              rw [ix_s1_end hs]
              exact ix_gm.rf
            · cases q

end IXH
