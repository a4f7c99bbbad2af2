/-! RUNS AS EQUATIONS: xe is the end of a run of the small machine (none: it doesn't end, or is stuck). -/
abbrev ix_Rs : Type := (Option Value ⊕ Nat) × ix_H
section XE
variable {P : ix_P} {d mid pc len : Nat} {lv : ix_L} {st : List Value} {h : ix_H}
theorem ix_ex_mono : ∀ (n d mid pc : Nat) (lv : ix_L) (st : List Value) (h : ix_H) (r : ix_Rs), ix_ex P n d mid pc lv st h = some r → ix_ex P (n + 1) d mid pc lv st h = some r
  | 0, _, _, _, _, _, _, _, q => by cases q
  | n + 1, d, mid, pc, lv, st, h, r, q => by
    unfold ix_ex at q ⊢
    cases hmi : (ix_MT P)[mid]? with
    | none => simp only [hmi] at q; cases q
    | some mi =>
    simp only [hmi] at q ⊢
    cases hdc : ix_dc mi.2.2.2.2.2.2.2.1 pc with
    | none => simp only [hdc] at q; cases q
    | some il =>
    obtain ⟨ins, len⟩ := il
    simp only [hdc] at q ⊢
    cases htw : ix_tw P mid pc st h ins with
    | some r0 => simp only [htw] at q ⊢; exact q
    | none =>
    simp only [htw] at q ⊢
    cases hcl : ix_cl P mi st h len ins with
    | some kx =>
      obtain ⟨kx, me, as, rest⟩ := kx
      simp only [hcl] at q ⊢
      cases d with
      | zero => cases q
      | succ d =>
      simp only at q ⊢
      cases hrun : ix_ex P n d kx.2.1 0 (ix_en me.2.2.2.1 as) [] h with
      | none => simp only [hrun] at q; cases q
      | some r1 =>
      rw [ix_ex_mono n _ _ _ _ _ _ _ hrun]
      obtain ⟨v | x, h1⟩ := r1
      · simp only [hrun] at q ⊢
        exact ix_ex_mono n _ _ _ _ _ _ _ q
      · simp only [hrun] at q ⊢
        cases hca : ix_ca P mid mi lv pc x with
        | none => simp only [hca] at q; cases q
        | some pl =>
        obtain ⟨pc', lv'⟩ := pl
        simp only [hca] at q ⊢
        exact ix_ex_mono n _ _ _ _ _ _ _ q
    | none =>
      simp only [hcl] at q ⊢
      cases hs1 : ix_s1 P mi pc lv st h len ins with
      | none => simp only [hs1] at q; cases q
      | some r1 =>
      obtain ⟨pc', lv', st', h'⟩ | r1 := r1
      · simp only [hs1] at q ⊢
        exact ix_ex_mono n _ _ _ _ _ _ _ q
      · simp only [hs1] at q ⊢
        exact q
theorem ix_ex_le {n k : Nat} {r : ix_Rs} (q : ix_ex P n d mid pc lv st h = some r) : ix_ex P (n + k) d mid pc lv st h = some r := by
  induction k with
  | zero => exact q
  | succ k ih => exact ix_ex_mono _ _ _ _ _ _ _ _ ih
theorem ix_ex_det {n k : Nat} {r r' : ix_Rs} (q : ix_ex P n d mid pc lv st h = some r) (q' : ix_ex P k d mid pc lv st h = some r') : r = r' := by
  have h1 := ix_ex_le (k := k) q
  have h2 := ix_ex_le (k := n) q'
  rw [Nat.add_comm] at h2
  exact Option.some.inj (h1.symm.trans h2)
noncomputable def xe (P : ix_P) (d mid pc : Nat) (lv : ix_L) (st : List Value) (h : ix_H) : Option ix_Rs := @dite _ (∃ r n, ix_ex P n d mid pc lv st h = some r) (Classical.propDecidable _) (fun hx => some (Classical.choose hx)) (fun _ => none)
theorem xe_iff {r : ix_Rs} : xe P d mid pc lv st h = some r ↔ ∃ n, ix_ex P n d mid pc lv st h = some r := by
  unfold xe
  constructor
  · intro q
    split at q
    · next hx =>
      obtain ⟨n, hn⟩ := Classical.choose_spec hx
      cases q
      exact ⟨n, hn⟩
    · cases q
  · rintro ⟨n, hn⟩
    have hx : ∃ r n, ix_ex P n d mid pc lv st h = some r := ⟨r, n, hn⟩
    rw [dif_pos hx]
    obtain ⟨k, hk⟩ := Classical.choose_spec hx
    rw [ix_ex_det hk hn]
theorem xe_none {P : ix_P} {d mid pc : Nat} {lv : ix_L} {st : List Value} {h : ix_H} : xe P d mid pc lv st h = none ↔ ∀ n r, ix_ex P n d mid pc lv st h ≠ some r := by
  constructor
  · intro q n r hn
    rw [xe_iff.mpr ⟨n, hn⟩] at q
    cases q
  · intro q
    cases hx : xe P d mid pc lv st h with
    | none => rfl
    | some r =>
      obtain ⟨n, hn⟩ := xe_iff.mp hx
      exact absurd hn (q n r)
theorem xe_ext {x y : Option ix_Rs} (hxy : ∀ r, x = some r ↔ y = some r) : x = y := Option.ext (fun r => by simpa using hxy r)
/-- behind a step that is no call -/
noncomputable def xK (P : ix_P) (d mid : Nat) : Option ix_S → Option ix_Rs
  | some (.inl (pc', lv', st', h')) => xe P d mid pc' lv' st' h'
  | some (.inr r) => some r
  | none => none
theorem xe_step {mi : ix_M} {ins : Instr} (h1 : (ix_MT P)[mid]? = some mi) (h2 : ix_dc mi.2.2.2.2.2.2.2.1 pc = some (ins, len)) (h3 : ix_tw P mid pc st h ins = none) (h4 : ix_cl P mi st h len ins = none) : xe P d mid pc lv st h = xK P d mid (ix_s1 P mi pc lv st h len ins) := by
  have key : ∀ n, ix_ex P (n + 1) d mid pc lv st h = match ix_s1 P mi pc lv st h len ins with
      | some (.inl (pc', lv', st', h')) => ix_ex P n d mid pc' lv' st' h'
      | some (.inr r) => some r
      | none => none := fun n => by
    rw [ix_ex.eq_def]
    simp only [h1, h2, h3, h4]
    rfl
  refine xe_ext fun r => ?_
  rw [xe_iff]
  constructor
  · rintro ⟨n, hn⟩
    cases n with
    | zero => cases hn
    | succ n =>
      rw [key] at hn
      unfold xK
      split at hn
      · next hs => exact xe_iff.mpr ⟨n, hn⟩
      · exact hn
      · cases hn
  · intro hk
    unfold xK at hk
    split at hk
    · next hs =>
      obtain ⟨n, hn⟩ := xe_iff.mp hk
      exact ⟨n + 1, by rw [key, hs]; exact hn⟩
    · next hs => exact ⟨1, by rw [key, hs]; exact hk⟩
    · cases hk
theorem xe_throw {mi : ix_M} {ins : Instr} {r : ix_Rs} (h1 : (ix_MT P)[mid]? = some mi) (h2 : ix_dc mi.2.2.2.2.2.2.2.1 pc = some (ins, len)) (h3 : ix_tw P mid pc st h ins = some r) : xe P d mid pc lv st h = some r :=
  xe_iff.mpr ⟨1, by rw [ix_ex.eq_def]; simp only [h1, h2, h3]⟩
/-- behind a call, where no handler stands -/
noncomputable def xC (P : ix_P) (d mid pc : Nat) (lv : ix_L) (rest : List Value) : Option ix_Rs → Option ix_Rs
  | some (.inl v, h') => xe P d mid pc lv (v.toList ++ rest) h'
  | _ => none
/-- behind a call, where one stands: the exception's class, where it goes on -/
noncomputable def xX (P : ix_P) (d mid pc x0 pc0 : Nat) (lv lv0 : ix_L) (rest : List Value) : Option ix_Rs → Option ix_Rs
  | some (.inl v, h') => xe P d mid pc lv (v.toList ++ rest) h'
  | some (.inr x, h') => if x = x0 then xe P d mid pc0 lv0 [] h' else none
  | none => none
theorem xe_call {mi me : ix_M} {ins : Instr} {kx : ix_K} {as rest : List Value} (h1 : (ix_MT P)[mid]? = some mi) (h2 : ix_dc mi.2.2.2.2.2.2.2.1 pc = some (ins, len)) (h3 : ix_tw P mid pc st h ins = none) (h4 : ix_cl P mi st h len ins = some (kx, me, as, rest)) (h5 : ix_fd mid pc (ix_HT P) = none) : xe P (d + 1) mid pc lv st h = xC P (d + 1) mid (pc + 3) lv rest (xe P d kx.2.1 0 (ix_en me.2.2.2.1 as) [] h) := by
  have key : ∀ n, ix_ex P (n + 1) (d + 1) mid pc lv st h = match ix_ex P n d kx.2.1 0 (ix_en me.2.2.2.1 as) [] h with
      | some (.inl v, h') => ix_ex P n (d + 1) mid (pc + 3) lv (v.toList ++ rest) h'
      | _ => none := fun n => by
    rw [ix_ex.eq_def]
    simp only [h1, h2, h3, h4]
    have hca : ∀ x, ix_ca P mid mi lv pc x = none := fun x => by unfold ix_ca; rw [h5]
    cases ix_ex P n d kx.2.1 0 (ix_en me.2.2.2.1 as) [] h with
    | none => rfl
    | some r =>
      obtain ⟨r | r, h'⟩ := r
      · rfl
      · simp only [hca]
  refine xe_ext fun r => ?_
  rw [xe_iff]
  constructor
  · rintro ⟨n, hn⟩
    cases n with
    | zero => cases hn
    | succ n =>
      rw [key] at hn
      split at hn
      · next v h' hs =>
        rw [xe_iff.mpr ⟨n, hs⟩]
        exact xe_iff.mpr ⟨n, hn⟩
      · cases hn
  · intro hk
    unfold xC at hk
    split at hk
    · next v h' hs =>
      obtain ⟨n, hn⟩ := xe_iff.mp hs
      obtain ⟨k, hk⟩ := xe_iff.mp hk
      refine ⟨n + k + 1, ?_⟩
      rw [key, ix_ex_le hn]
      simp only
      rw [Nat.add_comm]
      exact ix_ex_le hk
    · cases hk
theorem xe_callX {mi me : ix_M} {ins : Instr} {kx : ix_K} {as rest : List Value} {x0 pc0 : Nat} {lv0 : ix_L} (h1 : (ix_MT P)[mid]? = some mi) (h2 : ix_dc mi.2.2.2.2.2.2.2.1 pc = some (ins, len)) (h3 : ix_tw P mid pc st h ins = none) (h4 : ix_cl P mi st h len ins = some (kx, me, as, rest)) (h5 : ∀ x, ix_ca P mid mi lv pc x = if x = x0 then some (pc0, lv0) else none) : xe P (d + 1) mid pc lv st h = xX P (d + 1) mid (pc + 3) x0 pc0 lv lv0 rest (xe P d kx.2.1 0 (ix_en me.2.2.2.1 as) [] h) := by
  have key : ∀ n, ix_ex P (n + 1) (d + 1) mid pc lv st h = match ix_ex P n d kx.2.1 0 (ix_en me.2.2.2.1 as) [] h with
      | some (.inl v, h') => ix_ex P n (d + 1) mid (pc + 3) lv (v.toList ++ rest) h'
      | some (.inr x, h') => if x = x0 then ix_ex P n (d + 1) mid pc0 lv0 [] h' else none
      | none => none := fun n => by
    rw [ix_ex.eq_def]
    simp only [h1, h2, h3, h4]
    cases ix_ex P n d kx.2.1 0 (ix_en me.2.2.2.1 as) [] h with
    | none => rfl
    | some r =>
      obtain ⟨r | r, h'⟩ := r
      · rfl
      · simp only [h5]
        by_cases e : r = x0
        · simp only [if_pos e]
        · simp only [if_neg e]
  refine xe_ext fun r => ?_
  rw [xe_iff]
  constructor
  · rintro ⟨n, hn⟩
    cases n with
    | zero => cases hn
    | succ n =>
      rw [key] at hn
      split at hn
      · next v h' hs =>
        rw [xe_iff.mpr ⟨n, hs⟩]
        exact xe_iff.mpr ⟨n, hn⟩
      · next x h' hs =>
        rw [xe_iff.mpr ⟨n, hs⟩]
        obtain ⟨e, hn⟩ := Option.ite_none_right_eq_some.mp hn
        show (if x = x0 then _ else none) = _
        rw [if_pos e]
        exact xe_iff.mpr ⟨n, hn⟩
      · cases hn
  · intro hk
    unfold xX at hk
    split at hk
    · next v h' hs =>
      obtain ⟨n, hn⟩ := xe_iff.mp hs
      obtain ⟨k, hk⟩ := xe_iff.mp hk
      refine ⟨n + k + 1, ?_⟩
      rw [key, ix_ex_le hn]
      simp only
      rw [Nat.add_comm]
      exact ix_ex_le hk
    · next x h' hs =>
      obtain ⟨e, hk⟩ := Option.ite_none_right_eq_some.mp hk
      obtain ⟨n, hn⟩ := xe_iff.mp hs
      obtain ⟨k, hk⟩ := xe_iff.mp hk
      refine ⟨n + k + 1, ?_⟩
      rw [key, ix_ex_le hn]
      simp only
      rw [if_pos e, Nat.add_comm]
      exact ix_ex_le hk
    · cases hk
end XE
