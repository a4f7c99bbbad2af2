/-! THE READER: names found, what a line leaves (written by gen999995.py). -/
section RD5
variable {fv : Value} {h : ix_H} {r pl q q1 k m i j n b s t k1 k3 k4 k5 : Nat} {N Q Q' : Mem} {L L' L0 : Jem} {w x y c e f v : Int32} {S : List (Int32 × Int32)} {a : Nat → Int64} {z : Int64} {ce : Nat → Int32}
theorem fnd_no (hn : ∀ i, i < m → ¬ lg_cmp (a i) z = 0) : fnd a z m = -1 := by
  suffices key : ∀ r k, k + r = m → itx (fun k (_ : Unit) => if lg_cmp (a k) z = 0 then (.inl (nI k) : Int32 ⊕ Unit) else .inr ()) k r () = .inr () by
    unfold fnd
    rw [key m 0 (by omega)]
    rfl
  intro r
  induction r with
  | zero => intro k _; rfl
  | succ r ih =>
    intro k hk
    rw [itx_r (s' := ()) (by simp only [hn k (by omega), if_false])]
    exact ih (k + 1) (by omega)
theorem fnd_at (hj : j < m) (hi : ∀ i, i < j → ¬ lg_cmp (a i) z = 0) (he : lg_cmp (a j) z = 0) : fnd a z m = nI j := by
  suffices key : ∀ r k, k + r = m → k ≤ j → itx (fun k (_ : Unit) => if lg_cmp (a k) z = 0 then (.inl (nI k) : Int32 ⊕ Unit) else .inr ()) k r () = .inl (nI j) by
    unfold fnd
    rw [key m 0 (by omega) (Nat.zero_le _)]
    rfl
  intro r
  induction r with
  | zero => intro k h1 h2; omega
  | succ r ih =>
    intro k hk h2
    by_cases c : k = j
    · subst c
      exact itx_l (by simp only [he, if_true])
    · rw [itx_r (s' := ()) (by simp only [hi k (by omega), if_false])]
      exact ih (k + 1) (by omega) (by omega)
theorem nj98 : ∀ i, i < 10 → ∀ j, j < 10 → lg_cmp (lexV (98 :: dgt i)) (lexV (98 :: dgt j)) = 0 → i = j := by decide +kernel
theorem fn98 (ha : ∀ i, i < m → a i = lexV (98 :: dgt i)) (hm : m < 10) : fnd a (lexV (98 :: dgt m)) m = -1 := fnd_no (fun i hi e => by
  rw [ha i hi] at e
  have := nj98 i (by omega) m hm e
  omega)
theorem fo98 (ha : ∀ i, i < m → a i = lexV (98 :: dgt i)) (hm : m < 10) (hj : j < m) : fnd a (lexV (98 :: dgt j)) m = nI j := fnd_at hj (fun i hi e => by
  rw [ha i (by omega)] at e
  have := nj98 i (by omega) j (by omega) e
  omega) (by rw [ha j hj]; exact lg_self)
theorem nj99 : ∀ i, i < 10 → ∀ j, j < 10 → lg_cmp (lexV (99 :: dgt i)) (lexV (99 :: dgt j)) = 0 → i = j := by decide +kernel
theorem fn99 (ha : ∀ i, i < m → a i = lexV (99 :: dgt i)) (hm : m < 10) : fnd a (lexV (99 :: dgt m)) m = -1 := fnd_no (fun i hi e => by
  rw [ha i hi] at e
  have := nj99 i (by omega) m hm e
  omega)
theorem fo99 (ha : ∀ i, i < m → a i = lexV (99 :: dgt i)) (hm : m < 10) (hj : j < m) : fnd a (lexV (99 :: dgt j)) m = nI j := fnd_at hj (fun i hi e => by
  rw [ha i (by omega)] at e
  have := nj99 i (by omega) j (by omega) e
  omega) (by rw [ha j hj]; exact lg_self)
theorem nj102 : ∀ i, i < 10 → ∀ j, j < 10 → lg_cmp (lexV (102 :: dgt i)) (lexV (102 :: dgt j)) = 0 → i = j := by decide +kernel
theorem fn102 (ha : ∀ i, i < m → a i = lexV (102 :: dgt i)) (hm : m < 10) : fnd a (lexV (102 :: dgt m)) m = -1 := fnd_no (fun i hi e => by
  rw [ha i hi] at e
  have := nj102 i (by omega) m hm e
  omega)
theorem fo102 (ha : ∀ i, i < m → a i = lexV (102 :: dgt i)) (hm : m < 10) (hj : j < m) : fnd a (lexV (102 :: dgt j)) m = nI j := fnd_at hj (fun i hi e => by
  rw [ha i (by omega)] at e
  have := nj102 i (by omega) j (by omega) e
  omega) (by rw [ha j hj]; exact lg_self)
theorem nj107 : ∀ i, i < 10 → ∀ j, j < 10 → lg_cmp (lexV (107 :: dgt i)) (lexV (107 :: dgt j)) = 0 → i = j := by decide +kernel
theorem fn107 (ha : ∀ i, i < m → a i = lexV (107 :: dgt i)) (hm : m < 10) : fnd a (lexV (107 :: dgt m)) m = -1 := fnd_no (fun i hi e => by
  rw [ha i hi] at e
  have := nj107 i (by omega) m hm e
  omega)
theorem fo107 (ha : ∀ i, i < m → a i = lexV (107 :: dgt i)) (hm : m < 10) (hj : j < m) : fnd a (lexV (107 :: dgt j)) m = nI j := fnd_at hj (fun i hi e => by
  rw [ha i (by omega)] at e
  have := nj107 i (by omega) j (by omega) e
  omega) (by rw [ha j hj]; exact lg_self)
theorem jm_x {a : Nat} : jm L a k z b j = if b = a ∧ j = k then z else L b j := by
  unfold jm
  by_cases h1 : b = a
  · rw [if_pos h1]
    unfold vp_updL
    by_cases h2 : j = k
    · rw [if_pos h2, if_pos ⟨h1, h2⟩]
    · rw [if_neg h2, if_neg (fun h => h2 h.2)]
  · rw [if_neg h1, if_neg (fun h => h1 h.1)]
/-- what is read so far: bays, chimneys, cradles, flocks -/
def PI (ce : Nat → Int32) (L0 : Jem) (k1 k3 k4 k5 : Nat) (Q : Mem) (L : Jem) : Prop :=
  (Q 0 0 = nI k1 ∧ Q 0 1 = nI (fS ce k1) ∧ Q 0 2 = nI k3 ∧ Q 0 3 = nI k4 ∧ Q 0 4 = nI k5 ∧ Q 0 5 = 0 ∧ Q 0 6 = 0) ∧
  (∀ j, j < k1 → Q 1 j = nI (pB ce j) ∧ Q 2 j = nI (tB ce j) ∧ Q 3 j = nI (fS ce j) ∧ ∀ p, fS ce j ≤ p → p < fS ce (j + 1) → Q 4 p = nI j) ∧
  (∀ j, j < k3 → Q 5 j = WM ce 3 j 0 ∧ Q 6 j = WM ce 3 j 1 ∧ Q 7 j = WM ce 3 j 2 ∧ Q 8 j = WM ce 3 j 3) ∧
  (∀ j, j < k4 → Q 9 j = WM ce 4 j 0 ∧ Q 10 j = WM ce 4 j 1 ∧ Q 11 j = WM ce 4 j 2) ∧
  (∀ j, j < k5 → Q 12 j = WM ce 5 j 1 ∧ Q 13 j = WM ce 5 j 2) ∧
  (L 2 = L0 2 ∧ (∀ j, j < k1 → L 3 j = lexV (98 :: dgt j)) ∧ (∀ j, j < k3 → L 4 j = lexV (107 :: dgt j)) ∧ (∀ j, j < k4 → L 5 j = lexV (99 :: dgt j)) ∧ (∀ j, j < k5 → L 6 j = lexV (102 :: dgt j)))
theorem PI_C (g : PI ce L0 k1 k3 k4 k5 Q L) (hk : k3 < 4) : PI ce L0 k1 (k3 + 1) k4 k5 (apC Q (WM ce 3 k3 0) (WM ce 3 k3 1) (WM ce 3 k3 2) (WM ce 3 k3 3)) (jm L 4 k3 (lexV (107 :: dgt k3))) := by
  obtain ⟨⟨g0, g1, g2, g3, g4, g5, g6⟩, gB, gC, gK, gF, gL, gb, gc, gk, gf⟩ := g
  have e : ∀ b j, apC Q (WM ce 3 k3 0) (WM ce 3 k3 1) (WM ce 3 k3 2) (WM ce 3 k3 3) b j = if b = 0 ∧ j = 2 then nI (k3 + 1) else if b = 8 ∧ j = k3 then WM ce 3 k3 3 else if b = 7 ∧ j = k3 then WM ce 3 k3 2 else if b = 6 ∧ j = k3 then WM ce 3 k3 1 else if b = 5 ∧ j = k3 then WM ce 3 k3 0 else Q b j := by
    intro b j
    unfold apC
    rw [g2, sp_n hk (by decide), sp_n hk (by decide), sp_n hk (by decide), sp_n hk (by decide), nI_1]
    simp only [sm_x]
  refine ⟨?_, fun j hj => ?_, fun j hj => ?_, fun j hj => ?_, fun j hj => ?_, ?_, fun j hj => ?_, fun j hj => ?_, fun j hj => ?_, fun j hj => ?_⟩
  · simp [e, g0, g1, g3, g4, g5, g6]
  · simpa [e] using gB j hj
  · by_cases c : j = k3
    · simp [e, c]
    · simpa [e, c] using gC j (by omega)
  · simpa [e] using gK j hj
  · simpa [e] using gF j hj
  · funext j
    rw [jm_x, if_neg (by omega), gL]
  · rw [jm_x, if_neg (by omega)]; exact gb j hj
  · rw [jm_x]
    by_cases c : j = k3
    · rw [if_pos ⟨rfl, c⟩, c]
    · rw [if_neg (fun h => c h.2)]; exact gc j (by omega)
  · rw [jm_x, if_neg (by omega)]; exact gk j hj
  · rw [jm_x, if_neg (by omega)]; exact gf j hj
theorem PI_K (g : PI ce L0 k1 k3 k4 k5 Q L) (hk : k4 < 3) : PI ce L0 k1 k3 (k4 + 1) k5 (apK Q (WM ce 4 k4 0) (WM ce 4 k4 1) (WM ce 4 k4 2)) (jm L 5 k4 (lexV (99 :: dgt k4))) := by
  obtain ⟨⟨g0, g1, g2, g3, g4, g5, g6⟩, gB, gC, gK, gF, gL, gb, gc, gk, gf⟩ := g
  have e : ∀ b j, apK Q (WM ce 4 k4 0) (WM ce 4 k4 1) (WM ce 4 k4 2) b j = if b = 0 ∧ j = 3 then nI (k4 + 1) else if b = 11 ∧ j = k4 then WM ce 4 k4 2 else if b = 10 ∧ j = k4 then WM ce 4 k4 1 else if b = 9 ∧ j = k4 then WM ce 4 k4 0 else Q b j := by
    intro b j
    unfold apK
    rw [g3, sp_n hk (by decide), sp_n hk (by decide), sp_n hk (by decide), nI_1]
    simp only [sm_x]
  refine ⟨?_, fun j hj => ?_, fun j hj => ?_, fun j hj => ?_, fun j hj => ?_, ?_, fun j hj => ?_, fun j hj => ?_, fun j hj => ?_, fun j hj => ?_⟩
  · simp [e, g0, g1, g2, g4, g5, g6]
  · simpa [e] using gB j hj
  · simpa [e] using gC j hj
  · by_cases c : j = k4
    · simp [e, c]
    · simpa [e, c] using gK j (by omega)
  · simpa [e] using gF j hj
  · funext j
    rw [jm_x, if_neg (by omega), gL]
  · rw [jm_x, if_neg (by omega)]; exact gb j hj
  · rw [jm_x, if_neg (by omega)]; exact gc j hj
  · rw [jm_x]
    by_cases c : j = k4
    · rw [if_pos ⟨rfl, c⟩, c]
    · rw [if_neg (fun h => c h.2)]; exact gk j (by omega)
  · rw [jm_x, if_neg (by omega)]; exact gf j hj
theorem PI_F (g : PI ce L0 k1 k3 k4 k5 Q L) (hk : k5 < 3) : PI ce L0 k1 k3 k4 (k5 + 1) (apF Q (WM ce 5 k5 1) (WM ce 5 k5 2)) (jm L 6 k5 (lexV (102 :: dgt k5))) := by
  obtain ⟨⟨g0, g1, g2, g3, g4, g5, g6⟩, gB, gC, gK, gF, gL, gb, gc, gk, gf⟩ := g
  have e : ∀ b j, apF Q (WM ce 5 k5 1) (WM ce 5 k5 2) b j = if b = 0 ∧ j = 4 then nI (k5 + 1) else if b = 13 ∧ j = k5 then WM ce 5 k5 2 else if b = 12 ∧ j = k5 then WM ce 5 k5 1 else Q b j := by
    intro b j
    unfold apF
    rw [g4, sp_n hk (by decide), sp_n hk (by decide), nI_1]
    simp only [sm_x]
  refine ⟨?_, fun j hj => ?_, fun j hj => ?_, fun j hj => ?_, fun j hj => ?_, ?_, fun j hj => ?_, fun j hj => ?_, fun j hj => ?_, fun j hj => ?_⟩
  · simp [e, g0, g1, g2, g3, g5, g6]
  · simpa [e] using gB j hj
  · simpa [e] using gC j hj
  · simpa [e] using gK j hj
  · by_cases c : j = k5
    · simp [e, c]
    · simpa [e, c] using gF j (by omega)
  · funext j
    rw [jm_x, if_neg (by omega), gL]
  · rw [jm_x, if_neg (by omega)]; exact gb j hj
  · rw [jm_x, if_neg (by omega)]; exact gc j hj
  · rw [jm_x, if_neg (by omega)]; exact gk j hj
  · rw [jm_x]
    by_cases c : j = k5
    · rw [if_pos ⟨rfl, c⟩, c]
    · rw [if_neg (fun h => c h.2)]; exact gf j (by omega)
theorem apB_x (h0 : Q 0 0 = nI b) (h1 : Q 0 1 = nI s) (hb : b < 5) (hm : s + m ≤ 40) : ∀ i j, apB Q (nI m) v i j = if i = 0 ∧ j = 0 then nI (b + 1) else if i = 0 ∧ j = 1 then nI (s + m) else if i = 1 ∧ j = b then nI m else if i = 2 ∧ j = b then v else if i = 3 ∧ j = b then nI s else if i = 4 ∧ (s ≤ j ∧ j < s + m) then nI b else Q i j := by
  have e0 : ∀ i j, apB0 Q (nI m) v i j = if i = 3 ∧ j = b then nI s else if i = 2 ∧ j = b then v else if i = 1 ∧ j = b then nI m else Q i j := by
    intro i j
    unfold apB0
    rw [h0, h1, sp_n hb (by decide), sp_n hb (by decide), sp_n hb (by decide)]
    simp only [sm_x]
  have key : ∀ r k (S : Mem), k + r = m → (∀ i j, S i j = if i = 4 ∧ (s ≤ j ∧ j < s + k) then nI b else apB0 Q (nI m) v i j) → ∀ i j, itr (fun k => apB1 (nI k)) k r S i j = if i = 4 ∧ (s ≤ j ∧ j < s + m) then nI b else apB0 Q (nI m) v i j := by
    intro r
    induction r with
    | zero =>
      intro k S hk hS
      have hkm : k = m := by omega
      subst hkm
      exact hS
    | succ r ih =>
      intro k S hk hS
      refine ih (k + 1) _ (by omega) ?_
      intro i j
      have s1 : S 0 1 = nI s := by rw [hS, e0]; simp [h1]
      have s0 : S 0 0 = nI b := by rw [hS, e0]; simp [h0]
      show apB1 (nI k) S i j = _
      unfold apB1
      rw [s0, s1, nI_add, sp_n (show s + k < 40 by omega) (by decide), sm_x, hS]
      by_cases c : i = 4
      · by_cases c2 : j = s + k
        · rw [if_pos ⟨c, c2⟩, if_pos ⟨c, by omega⟩]
        · rw [if_neg (fun h => c2 h.2)]
          by_cases c3 : s ≤ j ∧ j < s + k
          · rw [if_pos ⟨c, c3⟩, if_pos ⟨c, by omega⟩]
          · rw [if_neg (fun h => c3 h.2), if_neg (fun h => by omega)]
      · rw [if_neg (fun h => c h.1), if_neg (fun h => c h.1), if_neg (fun h => c h.1)]
  intro i j
  unfold apB
  rw [itI_0 (by omega)]
  have k1 := key m 0 (apB0 Q (nI m) v) (by omega) (fun i j => by rw [if_neg (by omega)])
  generalize itr (fun k => apB1 (nI k)) 0 m (apB0 Q (nI m) v) = S at k1
  have s1 : S 0 1 = nI s := by rw [k1, e0]; simp [h1]
  have s0 : S 0 0 = nI b := by rw [k1, e0]; simp [h0]
  unfold apB2
  have s2 : sm S 0 1 (S 0 1 + nI m) 0 0 = nI b := by rw [sm_x, if_neg (by omega), s0]
  rw [s2, s1, nI_add, nI_1, sm_x, sm_x, k1, e0]
  by_cases c0 : i = 0
  · subst c0; simp
  by_cases c1 : i = 1
  · subst c1; simp
  by_cases c2 : i = 2
  · subst c2; simp
  by_cases c3 : i = 3
  · subst c3; simp
  by_cases c4 : i = 4
  · subst c4; simp
  simp [c0, c1, c2, c3, c4]
theorem PI_B (g : PI ce L0 k1 0 0 0 Q L) (hk : k1 < 4) : PI ce L0 (k1 + 1) 0 0 0 (apB Q (nI (pB ce k1)) (nI (tB ce k1))) (jm L 3 k1 (lexV (98 :: dgt k1))) := by
  obtain ⟨⟨g0, g1, g2, g3, g4, g5, g6⟩, gB, gC, gK, gF, gL, gb, gc, gk, gf⟩ := g
  have hp := pB_b (ce := ce) (b := k1)
  have hf := fS_b (ce := ce) k1
  have e := apB_x (v := nI (tB ce k1)) g0 g1 (by omega) (show fS ce k1 + pB ce k1 ≤ 40 by omega)
  refine ⟨?_, fun j hj => ?_, fun j hj => absurd hj (Nat.not_lt_zero _), fun j hj => absurd hj (Nat.not_lt_zero _), fun j hj => absurd hj (Nat.not_lt_zero _), ?_, fun j hj => ?_, fun j hj => absurd hj (Nat.not_lt_zero _), fun j hj => absurd hj (Nat.not_lt_zero _), fun j hj => absurd hj (Nat.not_lt_zero _)⟩
  · refine ⟨?_, ?_, ?_, ?_, ?_, ?_, ?_⟩ <;> rw [e]
    · simp
    · simp; rfl
    · simpa using g2
    · simpa using g3
    · simpa using g4
    · simpa using g5
    · simpa using g6
  · by_cases c : j = k1
    · subst c
      refine ⟨by rw [e]; simp, by rw [e]; simp, by rw [e]; simp, fun p h1 h2 => ?_⟩
      have h2 : p < fS ce j + pB ce j := h2
      rw [e]; simp [h1, h2]
    · obtain ⟨b1, b2, b3, b4⟩ := gB j (by omega)
      refine ⟨by rw [e]; simpa [c] using b1, by rw [e]; simpa [c] using b2, by rw [e]; simpa [c] using b3, fun p h1 h2 => ?_⟩
      have hm := fS_mono (ce := ce) (k1 - (j + 1)) (j + 1)
      rw [show j + 1 + (k1 - (j + 1)) = k1 by omega] at hm
      rw [e]
      have : ¬ (fS ce k1 ≤ p) := by omega
      simpa [this] using b4 p h1 h2
  · funext j
    rw [jm_x, if_neg (by omega), gL]
  · rw [jm_x]
    by_cases c : j = k1
    · rw [if_pos ⟨rfl, c⟩, c]
    · rw [if_neg (fun h => c h.2)]; exact gb j (by omega)
theorem stp_x : ∀ (S : List (Int32 × Int32)) (Q : Mem) (s : Nat), Q 0 6 = nI s → s + S.length ≤ 400 → (∀ j x, S[j]? = some x → stp Q S 20 (s + j) = x.1 ∧ stp Q S 21 (s + j) = x.2) ∧ (∀ i, i < s → stp Q S 20 i = Q 20 i ∧ stp Q S 21 i = Q 21 i) ∧ stp Q S 0 6 = nI (s + S.length) ∧ (∀ b, b ≠ 0 → b ≠ 20 → b ≠ 21 → stp Q S b = Q b)
  | [], Q, s, h, hl => ⟨fun j x hj => (by cases hj), fun i hi => ⟨rfl, rfl⟩, h, fun b _ _ _ => rfl⟩
  | y :: S, Q, s, h, hl => by
    have hl : s + (S.length + 1) ≤ 400 := hl
    have e : ∀ b j, st1 Q y.1 y.2 b j = if b = 0 ∧ j = 6 then nI (s + 1) else if b = 21 ∧ j = s then y.2 else if b = 20 ∧ j = s then y.1 else Q b j := by
      intro b j
      unfold st1
      rw [h, sp_n (by omega) (by decide), sp_n (by omega) (by decide), nI_1]
      simp only [sm_x]
    obtain ⟨f1, f2, f3, f4⟩ := stp_x S (st1 Q y.1 y.2) (s + 1) (by rw [e]; simp) (by omega)
    refine ⟨fun j x hj => ?_, fun i hi => ?_, ?_, fun b h0 h1 h2 => ?_⟩
    · rcases j with _ | j
      · have hx : y = x := Option.some.inj hj
        have := f2 s (by omega)
        rw [← hx, Nat.add_zero]
        exact ⟨this.1.trans (by rw [e]; simp), this.2.trans (by rw [e]; simp)⟩
      · have := f1 j x hj
        rw [show s + 1 + j = s + (j + 1) by omega] at this
        exact this
    · have := f2 i (by omega)
      exact ⟨this.1.trans (by rw [e]; simp [show ¬ i = s by omega]), this.2.trans (by rw [e]; simp [show ¬ i = s by omega])⟩
    · show stp (st1 Q y.1 y.2) S 0 6 = _
      rw [f3, List.length_cons]
      congr 1
      omega
    · show stp (st1 Q y.1 y.2) S b = _
      rw [f4 b h0 h1 h2]
      funext j
      rw [e]; simp [h0, h1, h2]
end RD5
