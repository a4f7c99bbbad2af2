/-! PURE: trials. -/
/-- nothing behind the rows -/
def TZ (A : Mem) : Prop := ∀ p, 40 ≤ p → A 1 p = 0 ∧ A 2 p = 0
/-- how many hours until a pane is let go -/
def utN (n : Nat → Nat) (p : Nat) : Nat → Mm → Option Nat
  | 0, _ => none
  | m + 1, M => if M 2 p 3 = 1 then some 0 else (utN n p m (sPs M n)).map (fun u => u + 1)
theorem utN_s {n : Nat → Nat} {p m : Nat} {M : Mm} : utN n p (m + 1) M = if M 2 p 3 = 1 then some 0 else (utN n p m (sPs M n)).map (fun u => u + 1) := rfl
section PURE12
variable {Q A A1 A' Z Z' : Mem} {M M' : Mm} {n fb : Nat → Nat} {p k b c q f j B m : Nat} {v w i x y len : Int32}
theorem cf_0 : cfL Z A 0 0 = Z 0 0 ∧ cfL Z A 0 1 = Z 0 1 ∧ cfL Z A 0 2 = Z 0 2 ∧ cfL Z A 0 3 = Z 0 3 := ⟨rfl, rfl, rfl, rfl⟩
theorem cf_p (hp : p < 40) : cfL Z A 1 p = Z 1 p ∧ cfL Z A 2 p = Z 2 p ∧ cfL Z A 3 p = Z 3 p := ⟨if_pos hp, if_pos hp, if_pos hp⟩
theorem cf_z (hp : ¬ p < 40) : cfL Z A 1 p = A 1 p ∧ cfL Z A 2 p = A 2 p := ⟨if_neg hp, if_neg hp⟩
theorem cf_c (hp : p < 3) : cfL Z A 4 p = Z 4 p ∧ cfL Z A 5 p = Z 5 p ∧ cfL Z A 6 p = Z 6 p ∧ cfL Z A 7 p = Z 7 p ∧ cfL Z A 8 p = Z 8 p := ⟨if_pos hp, if_pos hp, if_pos hp, if_pos hp, if_pos hp⟩
theorem cf_I (hI : INV Q Z M n fb) (hA : TZ A) : INV Q (cfL Z A) M n fb := by
  obtain ⟨⟨hP, ⟨g0, g1, g2, g3⟩, hZ, hG, hB, hB2, hV, hO⟩, hR, hW, hK⟩ := hI
  have n2 := hP.2.1.2.1
  have n4 := hP.2.1.2.2.2.2.1
  have n5 := hP.2.1.2.2.2.2.2.1
  refine ⟨⟨hP, ⟨⟨cf_0.1.trans g0.1, cf_0.2.1.trans g0.2.1, cf_0.2.2.2.trans g0.2.2⟩, fun p hp => ?_, fun c hc => ?_, fun f hf => ?_⟩, fun p hp => ?_, hG, hB, hB2, hV, hO⟩, hR, hW, hK⟩
  · obtain ⟨a, b, c⟩ := cf_p (Z := Z) (A := A) (show p < 40 by omega)
    rw [a, b, c]
    exact g1 p hp
  · obtain ⟨a, b, e, -⟩ := cf_c (Z := Z) (A := A) (show c < 3 by omega)
    rw [a, b, e]
    exact g2 c hc
  · obtain ⟨-, -, -, a, b⟩ := cf_c (Z := Z) (A := A) (show f < 3 by omega)
    rw [a, b]
    exact g3 f hf
  · by_cases q : p < 40
    · obtain ⟨a, b, c⟩ := cf_p (Z := Z) (A := A) q
      rw [a, b]
      exact hZ p hp
    · obtain ⟨a, b⟩ := cf_z (Z := Z) (A := A) q
      rw [a, b]
      exact hA p (by omega)
theorem TZ_I (hI : INV Q A M n fb) : TZ A := fun p hp => hI.1.2.2.1 p (by have := hI.1.1.2.1.2.1; omega)
theorem whL_I (hI : INV Q A M n fb) (hp : p < n 2) : (whL Q A (nI p) = false) = (M 2 p 3 = 1) := by
  rw [whL_k hI.1.1 hI.1.2.1 hp]
  rcases hI.1.2.2.2.1 p hp with h | ⟨h, -⟩
  · rw [h, decide_eq_true rfl]
    exact propext ⟨fun e => (by cases e), fun e => absurd e (by decide)⟩
  · rw [h, decide_eq_false (by decide)]
    exact propext ⟨fun _ => rfl, fun _ => rfl⟩
theorem gn_1 (hI : INV Q A M n fb) : INV Q (gnL Q A 1) (sPs M n) n fb := by
  have h := (gn_eq (m := 1) hI (by decide)).1
  rw [hrs_1] at h
  exact h
theorem PLs_hr (hI : INV Q A M n fb) : PLs M (sPs M n) := (hr_eq hI).2.2.1
theorem ut_eq : ∀ (m k : Nat) (A : Mem) (M : Mm), INV Q A M n fb → p < n 2 → k + m < 2 ^ 31 → ∃ A', TZ A' ∧ xit id (fun A' => ((-1 : Int32), A')) (itx (fun k => utS Q (nI p) (nI k)) k m A) = (match utN n p m M with | some u => nI (k + u) | none => -1, A')
  | 0, k, A, M, hI, hp, hk => ⟨A, TZ_I hI, rfl⟩
  | m + 1, k, A, M, hI, hp, hk => by
    by_cases c : M 2 p 3 = 1
    · refine ⟨A, TZ_I hI, ?_⟩
      have e : utS Q (nI p) (nI k) A = .inl (nI k, A) := by
        unfold utS
        exact if_pos ((whL_I hI hp).mpr c)
      rw [itx_l (f := fun k => utS Q (nI p) (nI k)) e]
      rw [utN_s, if_pos c]
      rfl
    · have e : utS Q (nI p) (nI k) A = .inr (gnL Q A 1) := by
        unfold utS
        exact if_neg (fun q => c ((whL_I hI hp).mp q))
      obtain ⟨A', h1, h2⟩ := ut_eq m (k + 1) (gnL Q A 1) (sPs M n) (gn_1 hI) hp (by omega)
      refine ⟨A', h1, ?_⟩
      rw [itx_r (f := fun k => utS Q (nI p) (nI k)) e, h2]
      rw [utN_s, if_neg c]
      cases utN n p m (sPs M n) with
      | none => rfl
      | some u => exact congrArg (fun z => (nI z, A')) (show k + 1 + u = k + (u + 1) by omega)
def utV (n : Nat → Nat) (p : Nat) (M : Mm) : Int32 := match utN n p 201 M with
  | some u => nI u
  | none => -1
theorem utL_eq (hI : INV Q Z M n fb) (hA : TZ A) (hp : p < n 2) : (utL Q (cfL Z A) (nI p)).1 = utV n p M ∧ TZ (utL Q (cfL Z A) (nI p)).2 := by
  obtain ⟨A', h1, h2⟩ := ut_eq (p := p) 201 0 (cfL Z A) M (cf_I hI hA) hp (by decide)
  unfold utL
  have h201 : (201 : Int32) = nI 201 := rfl
  rw [h201, itxI_0 (by decide), h2]
  refine ⟨?_, h1⟩
  unfold utV
  cases utN n p 201 M with
  | none => rfl
  | some u => exact congrArg nI (Nat.zero_add u)
theorem utN_lt : ∀ (m : Nat) (M : Mm) (u : Nat), utN n p m M = some u → u < m
  | 0, _, _, h => by cases h
  | m + 1, M, u, h => by
    unfold utN at h
    by_cases c : M 2 p 3 = 1
    · rw [if_pos c] at h
      cases h
      omega
    · rw [if_neg c] at h
      cases e : utN n p m (sPs M n) with
      | none => rw [e] at h; cases h
      | some u' =>
        rw [e] at h
        have h' : u' + 1 = u := Option.some.inj h
        have := utN_lt m _ u' e
        omega
theorem utN_mono : ∀ (m : Nat) (M : Mm) (u : Nat), utN n p m M = some u → utN n p (m + 1) M = some u
  | 0, _, _, h => by cases h
  | m + 1, M, u, h => by
    unfold utN at h ⊢
    by_cases c : M 2 p 3 = 1
    · rw [if_pos c] at h ⊢
      exact h
    · rw [if_neg c] at h ⊢
      cases e : utN n p m (sPs M n) with
      | none => rw [e] at h; cases h
      | some u' =>
        rw [e] at h
        rw [utN_mono m _ u' e]
        exact h
theorem utV_0 : (utV n p M = 0) = (M 2 p 3 = 1) := by
  unfold utV utN
  by_cases c : M 2 p 3 = 1
  · rw [if_pos c]
    exact propext ⟨fun _ => c, fun _ => rfl⟩
  · rw [if_neg c]
    refine propext ⟨fun h => ?_, fun h => absurd h c⟩
    cases e : utN n p 200 (sPs M n) with
    | none => rw [e] at h; exact absurd h (by decide)
    | some u =>
      rw [e] at h
      have hu := utN_lt _ _ _ e
      have := (nI_eq (a := u + 1) (b := 0) (by omega) (by decide)).mp h
      omega
theorem utV_b : ¬ utV n p M < -1 ∧ ¬ 200 < utV n p M := by
  unfold utV
  cases e : utN n p 201 M with
  | none => exact ⟨by decide, by decide⟩
  | some u =>
    have hu := utN_lt _ _ _ e
    have ht := nI_toInt (n := u) (by omega)
    refine ⟨?_, ?_⟩
    · show ¬ nI u < -1
      rw [Int32.lt_iff_toInt_lt, ht]
      show ¬ (u : Int) < -1
      omega
    · show ¬ 200 < nI u
      rw [Int32.lt_iff_toInt_lt, ht]
      show ¬ (200 : Int) < u
      omega
theorem utV_n (h : ¬ utV n p M ≤ 0) : utV n p (sPs M n) = utV n p M - 1 := by
  revert h
  unfold utV
  by_cases c : M 2 p 3 = 1
  · have e : utN n p 201 M = some 0 := if_pos c
    rw [e]
    intro h
    exact absurd (show nI 0 ≤ 0 by decide) h
  · have e : utN n p 201 M = (utN n p 200 (sPs M n)).map (fun u => u + 1) := if_neg c
    rw [e]
    cases e2 : utN n p 200 (sPs M n) with
    | none =>
      intro h
      exact absurd (show (-1 : Int32) ≤ 0 by decide) h
    | some u =>
      intro _
      rw [utN_mono _ _ _ e2]
      show nI u = nI (u + 1) - 1
      rw [← nI_add, show (nI 1 : Int32) = 1 from rfl, Int32.add_sub_cancel]
end PURE12
