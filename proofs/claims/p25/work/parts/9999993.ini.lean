/-! WHAT TEACH LEAVES (written by gen9999993.py). -/
section INI
variable {k m p b j s c f i : Nat} {Q Q0 : Mem} {L L0 : Jem} {ce : Nat → Int32}
theorem bay_of : ∀ m, p < fS ce m → ∃ b, b < m ∧ fS ce b ≤ p ∧ p < fS ce (b + 1)
  | 0, h => absurd h (Nat.not_lt_zero _)
  | m + 1, h => by
    by_cases c : fS ce m ≤ p
    · exact ⟨m, Nat.lt_succ_self _, c, h⟩
    · obtain ⟨b, b1, b2, b3⟩ := bay_of m (by omega)
      exact ⟨b, by omega, b2, b3⟩
theorem vx_40 {a n : Nat} (h : a < n) (hn : n ≤ 40) : vx (nI a) n := vx_nI h (by omega)
theorem fl_x {A : Mem} {a n : Nat} {v : Int32} {b j : Nat} : flm A a n v b j = if b = a ∧ j < n then v else A b j := by
  unfold flm
  by_cases h1 : b = a
  · by_cases h2 : j < n
    · simp [h1, h2]
    · simp [h1, h2]
  · simp [h1]
theorem cp_x {A : Mem} {a n : Nat} {F : Nat → Int32} {b j : Nat} : cpm A a n F b j = if b = a ∧ j < n then F j else A b j := by
  unfold cpm
  by_cases h1 : b = a
  · by_cases h2 : j < n
    · simp [h1, h2]
    · simp [h1, h2]
  · simp [h1]
theorem bg_x : bgL Q A00 b j = if b = 8 ∧ j < 3 then 0 else if b = 7 ∧ j < 3 then -1 else if b = 6 ∧ j < 3 then 0 else if b = 5 ∧ j < 3 then 20 else if b = 4 ∧ j < 3 then Q 9 j else if b = 0 ∧ j = 3 then -1 else 0 := by
  unfold bgL
  simp only [fl_x, cp_x, sm_x, A00]
  by_cases h3 : b = 3
  · simp [h3]
  by_cases h2 : b = 2
  · simp [h2]
  by_cases h1 : b = 1
  · simp [h1]
  by_cases h0 : b = 0
  · by_cases j2 : j = 2 <;> simp [h0, j2]
  simp [h0, h1, h2, h3]
theorem I_RP (p1 : PI ce L0 (n1 ce) (n3 ce) (n4 ce) (n5 ce) Q0 L) (po : PO ce Q0 (n6 ce) s Q) : RP Q (WM ce) (nW ce) (fS ce) := by
  obtain ⟨⟨g0, g1, g2, g3, g4, g5, g6⟩, gB, gC, gK, gF, gL⟩ := p1
  obtain ⟨q1, q2, q3, q4, q5, q6⟩ := po
  have h1 := n1_b (ce := ce)
  have h2 := n2_b (ce := ce)
  have h3 := n3_b (ce := ce)
  have h4 := n4_b (ce := ce)
  have h5 := n5_b (ce := ce)
  have h6 := n6_b (ce := ce)
  unfold RP
  simp only [nW1, nW2, nW3, nW4, nW5, nW6]
  refine ⟨⟨(q1 0 (by decide) (by decide)).trans g0, (q1 1 (by decide) (by decide)).trans g1, (q1 2 (by decide) (by decide)).trans g2, (q1 3 (by decide) (by decide)).trans g3, (q1 4 (by decide) (by decide)).trans g4, q3⟩, ⟨by omega, by omega, by omega, by omega, by omega, by omega, by omega⟩, ⟨rfl, rfl, fun b hb => ?_⟩, fun p hp => ?_, fun k hk => ?_, fun c hc => ?_, fun f hf => ?_⟩
  · obtain ⟨b1, b2, b3, b4⟩ := gB b hb
    have m1 := fS_mono (ce := ce) 1 b
    have m2 := fS_mono (ce := ce) (n1 ce - (b + 1)) (b + 1)
    rw [show b + 1 + (n1 ce - (b + 1)) = n1 ce by omega] at m2
    refine ⟨by rw [q2 1 (by decide) (by decide)]; exact b1, by rw [q2 2 (by decide) (by decide)]; exact b2, by rw [q2 3 (by decide) (by decide)]; exact b3, ?_, m1, m2⟩
    show nI (pB ce b) = nI (fS ce b + pB ce b - fS ce b)
    rw [Nat.add_sub_cancel_left]
  · obtain ⟨b, b1, b2, b3⟩ := bay_of (n1 ce) hp
    have e : WM ce 2 p 0 = nI b := by
      show nI (bO ce p (n1 ce)) = nI b
      rw [bO_eq b2 b3 _ b1]
    refine ⟨?_, b, b1, e, b2, b3⟩
    rw [q2 4 (by decide) (by decide), e]
    exact (gB b b1).2.2.2 p b2 b3
  · obtain ⟨c1, c2, c3, c4⟩ := gC k hk
    rw [q2 5 (by decide) (by decide), q2 6 (by decide) (by decide), q2 7 (by decide) (by decide), q2 8 (by decide) (by decide)]
    exact ⟨c1, c2, c3, c4⟩
  · obtain ⟨c1, c2, c3⟩ := gK c hc
    rw [q2 10 (by decide) (by decide), q2 11 (by decide) (by decide)]
    exact ⟨c2, c3⟩
  · obtain ⟨c1, c2⟩ := gF f hf
    rw [q2 12 (by decide) (by decide), q2 13 (by decide) (by decide)]
    exact ⟨c1, c2⟩
theorem I_RS (p1 : PI ce L0 (n1 ce) (n3 ce) (n4 ce) (n5 ce) Q0 L) (po : PO ce Q0 (n6 ce) s Q) : RS (bgL Q A00) (WM ce) (nW ce) := by
  have h2 := n2_b (ce := ce)
  have h4 := n4_b (ce := ce)
  have h5 := n5_b (ce := ce)
  unfold RS
  simp only [nW1, nW2, nW3, nW4, nW5, nW6]
  refine ⟨⟨by rw [bg_x]; rfl, by rw [bg_x]; rfl, by rw [bg_x]; rfl⟩, fun p hp => ⟨by rw [bg_x]; simp; rfl, by rw [bg_x]; simp; rfl, by rw [bg_x]; simp; rfl⟩, fun c hc => ?_, fun f hf => ?_⟩
  · have hc3 : c < 3 := by omega
    refine ⟨?_, by rw [bg_x]; simp [hc3]; rfl, by rw [bg_x]; simp [hc3]; rfl⟩
    rw [bg_x, po.2.1 9 (by decide) (by decide)]
    simp [hc3]
    exact (p1.2.2.2.1 c hc).1
  · have hf3 : f < 3 := by omega
    exact ⟨by rw [bg_x]; simp [hf3]; rfl, by rw [bg_x]; simp [hf3]; rfl⟩
theorem I_RO (po : PO ce Q0 (n6 ce) s Q) : RO Q (WM ce) (nW ce) := by
  have h2 := n2_b (ce := ce)
  have h6 := n6_b (ce := ce)
  unfold RO
  simp only [nW1, nW2, nW3, nW4, nW5, nW6]
  intro k hk
  obtain ⟨a, b, c, r1, r2, r3, r4, r5, r6, r7, r8⟩ := po.2.2.2.2.2 k hk
  have hs := po.2.2.2.2.1
  refine ⟨a, b, c, r1, r2, r3, r4, r5, r6, by omega, r8, _, rfl, ?_⟩
  have := (i6_b (ce := ce) k).2.2.2.1
  omega
theorem I_vS : vS (WM ce) (nW ce) := by
  have h1 := n1_b (ce := ce)
  have h2 := n2_b (ce := ce)
  have h4 := n4_b (ce := ce)
  have h5 := n5_b (ce := ce)
  unfold vS vO
  simp only [nW1, nW2, nW3, nW4, nW5, nW6]
  refine ⟨fun k hk => ?_, fun q hq => ⟨?_, Or.inl ?_⟩, fun c hc => ?_, fun k hk => ?_, fun p hp => ?_, by omega⟩
  · obtain ⟨j1, j2, j3, j4, j5, j6, j7⟩ := i6_b (ce := ce) k
    exact ⟨vx_40 j5 (by omega), vx_40 j6 (by omega), vx_40 j7 (by omega)⟩
  · have := blw_lt (x := sF ce q >>> (4 &&& 31)) (m := 12) (by decide)
    exact nI_ne0 (n := 1 + blw (sF ce q >>> (4 &&& 31)) 12) (by omega) (by omega)
  · exact (by decide : (-1 : Int32) < 0)
  · exact vx_40 (blw_lt (x := sR ce c) (m := n2 ce) (by omega)) (by omega)
  · have := blw_lt (x := sC ce k >>> (4 &&& 31)) (m := 12) (by decide)
    exact nI_ne0 (n := 1 + blw (sC ce k >>> (4 &&& 31)) 12) (by omega) (by omega)
  · obtain ⟨b, b1, b2, b3⟩ := bay_of (n1 ce) hp
    show vx (nI (bO ce p (n1 ce))) (n1 ce)
    rw [bO_eq b2 b3 _ b1]
    exact vx_40 b1 (by omega)
theorem I_INV (p1 : PI ce L0 (n1 ce) (n3 ce) (n4 ce) (n5 ce) Q0 L) (po : PO ce Q0 (n6 ce) s Q) : INV Q (bgL Q A00) (WM ce) (nW ce) (fS ce) := by
  have h1 := n1_b (ce := ce)
  have h2 := n2_b (ce := ce)
  refine ⟨⟨I_RP p1 po, I_RS p1 po, fun p hp => ⟨by rw [bg_x]; simp, by rw [bg_x]; simp⟩, fun p hp => Or.inl rfl, fun p hp => ⟨⟨0, rfl, by decide⟩, Or.inl rfl⟩, by decide, I_vS, I_RO po⟩, ?_, ?_, ?_⟩
  · unfold SR
    simp only [nW1, nW2, nW3, nW4, nW5, nW6]
    refine ⟨fun k hk => ?_, fun c hc => ?_, fun f hf => ?_, fun b hb => ?_, ?_⟩
    · have b1 := blw_lt (x := sC ce k) (m := n2 ce) (by omega)
      have b2 := blw_lt (x := sC ce k >>> (2 &&& 31)) (m := 30) (by decide)
      have b3 := blw_lt (x := sC ce k >>> (4 &&& 31)) (m := 12) (by decide)
      have b4 := blw_lt (x := sC ce k >>> (6 &&& 31)) (m := 10) (by decide)
      exact ⟨_, _, _, _, rfl, by omega, rfl, by omega, rfl, by omega, by omega, rfl, by omega⟩
    · have b2 := blw_lt (x := sR ce c >>> (3 &&& 31)) (m := 9) (by decide)
      have b3 := blw_lt (x := sR ce c >>> (5 &&& 31)) (m := 60) (by decide)
      exact ⟨_, _, rfl, by omega, rfl, by omega⟩
    · have b1 := blw_lt (x := sF ce f) (m := 20) (by decide)
      have b2 := blw_lt (x := sF ce f >>> (4 &&& 31)) (m := 12) (by decide)
      exact ⟨_, _, rfl, by omega, rfl, by omega, by omega⟩
    · have := tB_b (ce := ce) (b := b)
      exact ⟨_, rfl, by omega, by omega⟩
    · exact (by decide : -3 ≤ (0 : Int32).toInt ∧ (0 : Int32).toInt ≤ 3)
  · intro c hc
    exact ⟨20, rfl, by decide⟩
  · unfold KI
    simp only [nW1, nW2, nW3, nW4, nW5, nW6]
    intro p hp
    obtain ⟨b, b1, b2, b3⟩ := bay_of (n1 ce) hp
    have e : WM ce 2 p 0 = nI b := by
      show nI (bO ce p (n1 ce)) = nI b
      rw [bO_eq b2 b3 _ b1]
    have ht := tB_b (ce := ce) (b := b)
    refine ⟨0, tB ce b, rfl, ?_, by omega, by omega, by omega⟩
    rw [e, nI_clamp (by omega)]
    rfl
theorem I_TZ : TZ A00 := fun p hp => ⟨rfl, rfl⟩
theorem I_WP : WP (WM ce) (nW ce) := fun c hc => by
  have b3 := blw_lt (x := sR ce c >>> (5 &&& 31)) (m := 60) (by decide)
  exact ⟨1 + blw (sR ce c >>> (5 &&& 31)) 60, rfl, by omega, by omega⟩
end INI
