/-! PURE: the orders, compiled, tell what Sim's sums and tests do (written by gen72.py). -/
section PURE3
variable {Q A A0 : Mem} {M : Mm} {n fb : Nat → Nat} {v w y l r : Int32} {vs : List Int32} {k B : Nat}
theorem opS_5 : opS Q A0 (5, y) vs = ca 3 (A0 4) y :: vs := by
  unfold opS

  rw [if_pos (rfl : (5 : Int32) = 5)]
theorem okS_5 : okS (5, y) vs := ⟨fun h => absurd h (show ¬ ((5 : Int32) = 21 ∨ (5 : Int32) = 22 ∨ (5 : Int32) = 26 ∨ (5 : Int32) = 301) by decide), (Or.inl rfl)⟩
theorem opS_18 : opS Q A0 (18, y) vs = A0 0 0 :: vs := by
  unfold opS
  rw [if_neg (show ¬ (18 : Int32) = 5 by decide)]
  rw [if_pos (rfl : (18 : Int32) = 18)]
theorem okS_18 : okS (18, y) vs := ⟨fun h => absurd h (show ¬ ((18 : Int32) = 21 ∨ (18 : Int32) = 22 ∨ (18 : Int32) = 26 ∨ (18 : Int32) = 301) by decide), (Or.inr (Or.inl rfl))⟩
theorem opS_19 : opS Q A0 (19, y) vs = A0 0 1 :: vs := by
  unfold opS
  rw [if_neg (show ¬ (19 : Int32) = 5 by decide)]
  rw [if_neg (show ¬ (19 : Int32) = 18 by decide)]
  rw [if_pos (rfl : (19 : Int32) = 19)]
theorem okS_19 : okS (19, y) vs := ⟨fun h => absurd h (show ¬ ((19 : Int32) = 21 ∨ (19 : Int32) = 22 ∨ (19 : Int32) = 26 ∨ (19 : Int32) = 301) by decide), (Or.inr (Or.inr (Or.inl rfl)))⟩
theorem opS_20 : opS Q A0 (20, y) vs = liL A0 0 (Q 0 1) :: vs := by
  unfold opS
  rw [if_neg (show ¬ (20 : Int32) = 5 by decide)]
  rw [if_neg (show ¬ (20 : Int32) = 18 by decide)]
  rw [if_neg (show ¬ (20 : Int32) = 19 by decide)]
  rw [if_pos (rfl : (20 : Int32) = 20)]
theorem okS_20 : okS (20, y) vs := ⟨fun h => absurd h (show ¬ ((20 : Int32) = 21 ∨ (20 : Int32) = 22 ∨ (20 : Int32) = 26 ∨ (20 : Int32) = 301) by decide), (Or.inr (Or.inr (Or.inr (Or.inl rfl))))⟩
theorem opS_21 : opS Q A0 (21, y) (v :: vs) = ca 40 (A0 1) v :: vs := by
  unfold opS
  rw [if_neg (show ¬ (21 : Int32) = 5 by decide)]
  rw [if_neg (show ¬ (21 : Int32) = 18 by decide)]
  rw [if_neg (show ¬ (21 : Int32) = 19 by decide)]
  rw [if_neg (show ¬ (21 : Int32) = 20 by decide)]
  rw [if_pos (rfl : (21 : Int32) = 21)]
theorem okS_21 : okS (21, y) (v :: vs) := ⟨fun h => Nat.succ_le_succ (Nat.zero_le _), (Or.inr (Or.inr (Or.inr (Or.inr (Or.inl rfl)))))⟩
theorem opS_22 : opS Q A0 (22, y) (v :: vs) = ca 40 (A0 2) v :: vs := by
  unfold opS
  rw [if_neg (show ¬ (22 : Int32) = 5 by decide)]
  rw [if_neg (show ¬ (22 : Int32) = 18 by decide)]
  rw [if_neg (show ¬ (22 : Int32) = 19 by decide)]
  rw [if_neg (show ¬ (22 : Int32) = 20 by decide)]
  rw [if_neg (show ¬ (22 : Int32) = 21 by decide)]
  rw [if_pos (rfl : (22 : Int32) = 22)]
theorem okS_22 : okS (22, y) (v :: vs) := ⟨fun h => Nat.succ_le_succ (Nat.zero_le _), (Or.inr (Or.inr (Or.inr (Or.inr (Or.inr (Or.inl rfl))))))⟩
theorem opS_23 : opS Q A0 (23, y) vs = ca 3 (A0 5) y :: vs := by
  unfold opS
  rw [if_neg (show ¬ (23 : Int32) = 5 by decide)]
  rw [if_neg (show ¬ (23 : Int32) = 18 by decide)]
  rw [if_neg (show ¬ (23 : Int32) = 19 by decide)]
  rw [if_neg (show ¬ (23 : Int32) = 20 by decide)]
  rw [if_neg (show ¬ (23 : Int32) = 21 by decide)]
  rw [if_neg (show ¬ (23 : Int32) = 22 by decide)]
  rw [if_pos (rfl : (23 : Int32) = 23)]
theorem okS_23 : okS (23, y) vs := ⟨fun h => absurd h (show ¬ ((23 : Int32) = 21 ∨ (23 : Int32) = 22 ∨ (23 : Int32) = 26 ∨ (23 : Int32) = 301) by decide), (Or.inr (Or.inr (Or.inr (Or.inr (Or.inr (Or.inr (Or.inl rfl)))))))⟩
theorem opS_24 : opS Q A0 (24, y) vs = ca 3 (A0 7) y :: vs := by
  unfold opS
  rw [if_neg (show ¬ (24 : Int32) = 5 by decide)]
  rw [if_neg (show ¬ (24 : Int32) = 18 by decide)]
  rw [if_neg (show ¬ (24 : Int32) = 19 by decide)]
  rw [if_neg (show ¬ (24 : Int32) = 20 by decide)]
  rw [if_neg (show ¬ (24 : Int32) = 21 by decide)]
  rw [if_neg (show ¬ (24 : Int32) = 22 by decide)]
  rw [if_neg (show ¬ (24 : Int32) = 23 by decide)]
  rw [if_pos (rfl : (24 : Int32) = 24)]
theorem okS_24 : okS (24, y) vs := ⟨fun h => absurd h (show ¬ ((24 : Int32) = 21 ∨ (24 : Int32) = 22 ∨ (24 : Int32) = 26 ∨ (24 : Int32) = 301) by decide), (Or.inr (Or.inr (Or.inr (Or.inr (Or.inr (Or.inr (Or.inr (Or.inl rfl))))))))⟩
theorem opS_25 : opS Q A0 (25, y) vs = b01 (daL Q A0 y) :: vs := by
  unfold opS
  rw [if_neg (show ¬ (25 : Int32) = 5 by decide)]
  rw [if_neg (show ¬ (25 : Int32) = 18 by decide)]
  rw [if_neg (show ¬ (25 : Int32) = 19 by decide)]
  rw [if_neg (show ¬ (25 : Int32) = 20 by decide)]
  rw [if_neg (show ¬ (25 : Int32) = 21 by decide)]
  rw [if_neg (show ¬ (25 : Int32) = 22 by decide)]
  rw [if_neg (show ¬ (25 : Int32) = 23 by decide)]
  rw [if_neg (show ¬ (25 : Int32) = 24 by decide)]
  rw [if_pos (rfl : (25 : Int32) = 25)]
theorem okS_25 : okS (25, y) vs := ⟨fun h => absurd h (show ¬ ((25 : Int32) = 21 ∨ (25 : Int32) = 22 ∨ (25 : Int32) = 26 ∨ (25 : Int32) = 301) by decide), (Or.inr (Or.inr (Or.inr (Or.inr (Or.inr (Or.inr (Or.inr (Or.inr (Or.inl rfl)))))))))⟩
theorem opS_26 : opS Q A0 (26, y) (v :: vs) = (if v = 0 then 1 else 0) :: vs := by
  unfold opS
  rw [if_neg (show ¬ (26 : Int32) = 5 by decide)]
  rw [if_neg (show ¬ (26 : Int32) = 18 by decide)]
  rw [if_neg (show ¬ (26 : Int32) = 19 by decide)]
  rw [if_neg (show ¬ (26 : Int32) = 20 by decide)]
  rw [if_neg (show ¬ (26 : Int32) = 21 by decide)]
  rw [if_neg (show ¬ (26 : Int32) = 22 by decide)]
  rw [if_neg (show ¬ (26 : Int32) = 23 by decide)]
  rw [if_neg (show ¬ (26 : Int32) = 24 by decide)]
  rw [if_neg (show ¬ (26 : Int32) = 25 by decide)]
  rw [if_pos (rfl : (26 : Int32) = 26)]
theorem okS_26 : okS (26, y) (v :: vs) := ⟨fun h => Nat.succ_le_succ (Nat.zero_le _), (Or.inr (Or.inr (Or.inr (Or.inr (Or.inr (Or.inr (Or.inr (Or.inr (Or.inr (Or.inl rfl))))))))))⟩
theorem opS_48 : opS Q A0 (48, y) vs = y :: vs := by
  unfold opS
  rw [if_neg (show ¬ (48 : Int32) = 5 by decide)]
  rw [if_neg (show ¬ (48 : Int32) = 18 by decide)]
  rw [if_neg (show ¬ (48 : Int32) = 19 by decide)]
  rw [if_neg (show ¬ (48 : Int32) = 20 by decide)]
  rw [if_neg (show ¬ (48 : Int32) = 21 by decide)]
  rw [if_neg (show ¬ (48 : Int32) = 22 by decide)]
  rw [if_neg (show ¬ (48 : Int32) = 23 by decide)]
  rw [if_neg (show ¬ (48 : Int32) = 24 by decide)]
  rw [if_neg (show ¬ (48 : Int32) = 25 by decide)]
  rw [if_neg (show ¬ (48 : Int32) = 26 by decide)]
  rw [if_pos (rfl : (48 : Int32) = 48)]
theorem okS_48 : okS (48, y) vs := ⟨fun h => absurd h (show ¬ ((48 : Int32) = 21 ∨ (48 : Int32) = 22 ∨ (48 : Int32) = 26 ∨ (48 : Int32) = 301) by decide), (Or.inr (Or.inr (Or.inr (Or.inr (Or.inr (Or.inr (Or.inr (Or.inr (Or.inr (Or.inr (Or.inl rfl)))))))))))⟩
theorem opS_301 : opS Q A0 (301, y) (v :: vs) = -v :: vs := by
  unfold opS
  rw [if_neg (show ¬ (301 : Int32) = 5 by decide)]
  rw [if_neg (show ¬ (301 : Int32) = 18 by decide)]
  rw [if_neg (show ¬ (301 : Int32) = 19 by decide)]
  rw [if_neg (show ¬ (301 : Int32) = 20 by decide)]
  rw [if_neg (show ¬ (301 : Int32) = 21 by decide)]
  rw [if_neg (show ¬ (301 : Int32) = 22 by decide)]
  rw [if_neg (show ¬ (301 : Int32) = 23 by decide)]
  rw [if_neg (show ¬ (301 : Int32) = 24 by decide)]
  rw [if_neg (show ¬ (301 : Int32) = 25 by decide)]
  rw [if_neg (show ¬ (301 : Int32) = 26 by decide)]
  rw [if_neg (show ¬ (301 : Int32) = 48 by decide)]
  rw [if_pos (rfl : (301 : Int32) = 301)]
theorem okS_301 : okS (301, y) (v :: vs) := ⟨fun h => Nat.succ_le_succ (Nat.zero_le _), (Or.inr (Or.inr (Or.inr (Or.inr (Or.inr (Or.inr (Or.inr (Or.inr (Or.inr (Or.inr (Or.inr (Or.inl rfl))))))))))))⟩
theorem opS_27 : opS Q A0 (27, y) (r :: l :: vs) = (l &&& r) :: vs := by
  unfold opS
  rw [if_neg (show ¬ (27 : Int32) = 5 by decide)]
  rw [if_neg (show ¬ (27 : Int32) = 18 by decide)]
  rw [if_neg (show ¬ (27 : Int32) = 19 by decide)]
  rw [if_neg (show ¬ (27 : Int32) = 20 by decide)]
  rw [if_neg (show ¬ (27 : Int32) = 21 by decide)]
  rw [if_neg (show ¬ (27 : Int32) = 22 by decide)]
  rw [if_neg (show ¬ (27 : Int32) = 23 by decide)]
  rw [if_neg (show ¬ (27 : Int32) = 24 by decide)]
  rw [if_neg (show ¬ (27 : Int32) = 25 by decide)]
  rw [if_neg (show ¬ (27 : Int32) = 26 by decide)]
  rw [if_neg (show ¬ (27 : Int32) = 48 by decide)]
  rw [if_neg (show ¬ (27 : Int32) = 301 by decide)]
  show bvL 27 l r :: vs = _
  unfold bvL

  rw [if_pos (rfl : (27 : Int32) = 27)]
theorem okS_27 : okS (27, y) (r :: l :: vs) := ⟨fun h => absurd h (show ¬ ((27 : Int32) = 21 ∨ (27 : Int32) = 22 ∨ (27 : Int32) = 26 ∨ (27 : Int32) = 301) by decide), (Or.inr (Or.inr (Or.inr (Or.inr (Or.inr (Or.inr (Or.inr (Or.inr (Or.inr (Or.inr (Or.inr (Or.inr (show 2 ≤ (r :: l :: vs).length from Nat.le_add_left 2 _)))))))))))))⟩
theorem opS_28 : opS Q A0 (28, y) (r :: l :: vs) = (l ||| r) :: vs := by
  unfold opS
  rw [if_neg (show ¬ (28 : Int32) = 5 by decide)]
  rw [if_neg (show ¬ (28 : Int32) = 18 by decide)]
  rw [if_neg (show ¬ (28 : Int32) = 19 by decide)]
  rw [if_neg (show ¬ (28 : Int32) = 20 by decide)]
  rw [if_neg (show ¬ (28 : Int32) = 21 by decide)]
  rw [if_neg (show ¬ (28 : Int32) = 22 by decide)]
  rw [if_neg (show ¬ (28 : Int32) = 23 by decide)]
  rw [if_neg (show ¬ (28 : Int32) = 24 by decide)]
  rw [if_neg (show ¬ (28 : Int32) = 25 by decide)]
  rw [if_neg (show ¬ (28 : Int32) = 26 by decide)]
  rw [if_neg (show ¬ (28 : Int32) = 48 by decide)]
  rw [if_neg (show ¬ (28 : Int32) = 301 by decide)]
  show bvL 28 l r :: vs = _
  unfold bvL
  rw [if_neg (show ¬ (28 : Int32) = 27 by decide)]
  rw [if_neg (show ¬ (28 : Int32) = 29 by decide)]
  rw [if_neg (show ¬ (28 : Int32) = 30 by decide)]
  rw [if_neg (show ¬ (28 : Int32) = 42 by decide)]
  rw [if_neg (show ¬ (28 : Int32) = 43 by decide)]
  rw [if_neg (show ¬ (28 : Int32) = 45 by decide)]
  rw [if_neg (show ¬ (28 : Int32) = 47 by decide)]
  rw [if_neg (show ¬ (28 : Int32) = 60 by decide)]
  rw [if_neg (show ¬ (28 : Int32) = 61 by decide)]
  rw [if_neg (show ¬ (28 : Int32) = 62 by decide)]
  rw [if_neg (show ¬ (28 : Int32) = 316 by decide)]
  rw [if_neg (show ¬ (28 : Int32) = 318 by decide)]
theorem okS_28 : okS (28, y) (r :: l :: vs) := ⟨fun h => absurd h (show ¬ ((28 : Int32) = 21 ∨ (28 : Int32) = 22 ∨ (28 : Int32) = 26 ∨ (28 : Int32) = 301) by decide), (Or.inr (Or.inr (Or.inr (Or.inr (Or.inr (Or.inr (Or.inr (Or.inr (Or.inr (Or.inr (Or.inr (Or.inr (show 2 ≤ (r :: l :: vs).length from Nat.le_add_left 2 _)))))))))))))⟩
theorem opS_29 : opS Q A0 (29, y) (r :: l :: vs) = (mnL l r) :: vs := by
  unfold opS
  rw [if_neg (show ¬ (29 : Int32) = 5 by decide)]
  rw [if_neg (show ¬ (29 : Int32) = 18 by decide)]
  rw [if_neg (show ¬ (29 : Int32) = 19 by decide)]
  rw [if_neg (show ¬ (29 : Int32) = 20 by decide)]
  rw [if_neg (show ¬ (29 : Int32) = 21 by decide)]
  rw [if_neg (show ¬ (29 : Int32) = 22 by decide)]
  rw [if_neg (show ¬ (29 : Int32) = 23 by decide)]
  rw [if_neg (show ¬ (29 : Int32) = 24 by decide)]
  rw [if_neg (show ¬ (29 : Int32) = 25 by decide)]
  rw [if_neg (show ¬ (29 : Int32) = 26 by decide)]
  rw [if_neg (show ¬ (29 : Int32) = 48 by decide)]
  rw [if_neg (show ¬ (29 : Int32) = 301 by decide)]
  show bvL 29 l r :: vs = _
  unfold bvL
  rw [if_neg (show ¬ (29 : Int32) = 27 by decide)]
  rw [if_pos (rfl : (29 : Int32) = 29)]
theorem okS_29 : okS (29, y) (r :: l :: vs) := ⟨fun h => absurd h (show ¬ ((29 : Int32) = 21 ∨ (29 : Int32) = 22 ∨ (29 : Int32) = 26 ∨ (29 : Int32) = 301) by decide), (Or.inr (Or.inr (Or.inr (Or.inr (Or.inr (Or.inr (Or.inr (Or.inr (Or.inr (Or.inr (Or.inr (Or.inr (show 2 ≤ (r :: l :: vs).length from Nat.le_add_left 2 _)))))))))))))⟩
theorem opS_30 : opS Q A0 (30, y) (r :: l :: vs) = (mxL l r) :: vs := by
  unfold opS
  rw [if_neg (show ¬ (30 : Int32) = 5 by decide)]
  rw [if_neg (show ¬ (30 : Int32) = 18 by decide)]
  rw [if_neg (show ¬ (30 : Int32) = 19 by decide)]
  rw [if_neg (show ¬ (30 : Int32) = 20 by decide)]
  rw [if_neg (show ¬ (30 : Int32) = 21 by decide)]
  rw [if_neg (show ¬ (30 : Int32) = 22 by decide)]
  rw [if_neg (show ¬ (30 : Int32) = 23 by decide)]
  rw [if_neg (show ¬ (30 : Int32) = 24 by decide)]
  rw [if_neg (show ¬ (30 : Int32) = 25 by decide)]
  rw [if_neg (show ¬ (30 : Int32) = 26 by decide)]
  rw [if_neg (show ¬ (30 : Int32) = 48 by decide)]
  rw [if_neg (show ¬ (30 : Int32) = 301 by decide)]
  show bvL 30 l r :: vs = _
  unfold bvL
  rw [if_neg (show ¬ (30 : Int32) = 27 by decide)]
  rw [if_neg (show ¬ (30 : Int32) = 29 by decide)]
  rw [if_pos (rfl : (30 : Int32) = 30)]
theorem okS_30 : okS (30, y) (r :: l :: vs) := ⟨fun h => absurd h (show ¬ ((30 : Int32) = 21 ∨ (30 : Int32) = 22 ∨ (30 : Int32) = 26 ∨ (30 : Int32) = 301) by decide), (Or.inr (Or.inr (Or.inr (Or.inr (Or.inr (Or.inr (Or.inr (Or.inr (Or.inr (Or.inr (Or.inr (Or.inr (show 2 ≤ (r :: l :: vs).length from Nat.le_add_left 2 _)))))))))))))⟩
theorem opS_42 : opS Q A0 (42, y) (r :: l :: vs) = (l * r) :: vs := by
  unfold opS
  rw [if_neg (show ¬ (42 : Int32) = 5 by decide)]
  rw [if_neg (show ¬ (42 : Int32) = 18 by decide)]
  rw [if_neg (show ¬ (42 : Int32) = 19 by decide)]
  rw [if_neg (show ¬ (42 : Int32) = 20 by decide)]
  rw [if_neg (show ¬ (42 : Int32) = 21 by decide)]
  rw [if_neg (show ¬ (42 : Int32) = 22 by decide)]
  rw [if_neg (show ¬ (42 : Int32) = 23 by decide)]
  rw [if_neg (show ¬ (42 : Int32) = 24 by decide)]
  rw [if_neg (show ¬ (42 : Int32) = 25 by decide)]
  rw [if_neg (show ¬ (42 : Int32) = 26 by decide)]
  rw [if_neg (show ¬ (42 : Int32) = 48 by decide)]
  rw [if_neg (show ¬ (42 : Int32) = 301 by decide)]
  show bvL 42 l r :: vs = _
  unfold bvL
  rw [if_neg (show ¬ (42 : Int32) = 27 by decide)]
  rw [if_neg (show ¬ (42 : Int32) = 29 by decide)]
  rw [if_neg (show ¬ (42 : Int32) = 30 by decide)]
  rw [if_pos (rfl : (42 : Int32) = 42)]
theorem okS_42 : okS (42, y) (r :: l :: vs) := ⟨fun h => absurd h (show ¬ ((42 : Int32) = 21 ∨ (42 : Int32) = 22 ∨ (42 : Int32) = 26 ∨ (42 : Int32) = 301) by decide), (Or.inr (Or.inr (Or.inr (Or.inr (Or.inr (Or.inr (Or.inr (Or.inr (Or.inr (Or.inr (Or.inr (Or.inr (show 2 ≤ (r :: l :: vs).length from Nat.le_add_left 2 _)))))))))))))⟩
theorem opS_43 : opS Q A0 (43, y) (r :: l :: vs) = (l + r) :: vs := by
  unfold opS
  rw [if_neg (show ¬ (43 : Int32) = 5 by decide)]
  rw [if_neg (show ¬ (43 : Int32) = 18 by decide)]
  rw [if_neg (show ¬ (43 : Int32) = 19 by decide)]
  rw [if_neg (show ¬ (43 : Int32) = 20 by decide)]
  rw [if_neg (show ¬ (43 : Int32) = 21 by decide)]
  rw [if_neg (show ¬ (43 : Int32) = 22 by decide)]
  rw [if_neg (show ¬ (43 : Int32) = 23 by decide)]
  rw [if_neg (show ¬ (43 : Int32) = 24 by decide)]
  rw [if_neg (show ¬ (43 : Int32) = 25 by decide)]
  rw [if_neg (show ¬ (43 : Int32) = 26 by decide)]
  rw [if_neg (show ¬ (43 : Int32) = 48 by decide)]
  rw [if_neg (show ¬ (43 : Int32) = 301 by decide)]
  show bvL 43 l r :: vs = _
  unfold bvL
  rw [if_neg (show ¬ (43 : Int32) = 27 by decide)]
  rw [if_neg (show ¬ (43 : Int32) = 29 by decide)]
  rw [if_neg (show ¬ (43 : Int32) = 30 by decide)]
  rw [if_neg (show ¬ (43 : Int32) = 42 by decide)]
  rw [if_pos (rfl : (43 : Int32) = 43)]
theorem okS_43 : okS (43, y) (r :: l :: vs) := ⟨fun h => absurd h (show ¬ ((43 : Int32) = 21 ∨ (43 : Int32) = 22 ∨ (43 : Int32) = 26 ∨ (43 : Int32) = 301) by decide), (Or.inr (Or.inr (Or.inr (Or.inr (Or.inr (Or.inr (Or.inr (Or.inr (Or.inr (Or.inr (Or.inr (Or.inr (show 2 ≤ (r :: l :: vs).length from Nat.le_add_left 2 _)))))))))))))⟩
theorem opS_45 : opS Q A0 (45, y) (r :: l :: vs) = (l - r) :: vs := by
  unfold opS
  rw [if_neg (show ¬ (45 : Int32) = 5 by decide)]
  rw [if_neg (show ¬ (45 : Int32) = 18 by decide)]
  rw [if_neg (show ¬ (45 : Int32) = 19 by decide)]
  rw [if_neg (show ¬ (45 : Int32) = 20 by decide)]
  rw [if_neg (show ¬ (45 : Int32) = 21 by decide)]
  rw [if_neg (show ¬ (45 : Int32) = 22 by decide)]
  rw [if_neg (show ¬ (45 : Int32) = 23 by decide)]
  rw [if_neg (show ¬ (45 : Int32) = 24 by decide)]
  rw [if_neg (show ¬ (45 : Int32) = 25 by decide)]
  rw [if_neg (show ¬ (45 : Int32) = 26 by decide)]
  rw [if_neg (show ¬ (45 : Int32) = 48 by decide)]
  rw [if_neg (show ¬ (45 : Int32) = 301 by decide)]
  show bvL 45 l r :: vs = _
  unfold bvL
  rw [if_neg (show ¬ (45 : Int32) = 27 by decide)]
  rw [if_neg (show ¬ (45 : Int32) = 29 by decide)]
  rw [if_neg (show ¬ (45 : Int32) = 30 by decide)]
  rw [if_neg (show ¬ (45 : Int32) = 42 by decide)]
  rw [if_neg (show ¬ (45 : Int32) = 43 by decide)]
  rw [if_pos (rfl : (45 : Int32) = 45)]
theorem okS_45 : okS (45, y) (r :: l :: vs) := ⟨fun h => absurd h (show ¬ ((45 : Int32) = 21 ∨ (45 : Int32) = 22 ∨ (45 : Int32) = 26 ∨ (45 : Int32) = 301) by decide), (Or.inr (Or.inr (Or.inr (Or.inr (Or.inr (Or.inr (Or.inr (Or.inr (Or.inr (Or.inr (Or.inr (Or.inr (show 2 ≤ (r :: l :: vs).length from Nat.le_add_left 2 _)))))))))))))⟩
theorem opS_47 : opS Q A0 (47, y) (r :: l :: vs) = ((if r = 0 then 0 else l / r)) :: vs := by
  unfold opS
  rw [if_neg (show ¬ (47 : Int32) = 5 by decide)]
  rw [if_neg (show ¬ (47 : Int32) = 18 by decide)]
  rw [if_neg (show ¬ (47 : Int32) = 19 by decide)]
  rw [if_neg (show ¬ (47 : Int32) = 20 by decide)]
  rw [if_neg (show ¬ (47 : Int32) = 21 by decide)]
  rw [if_neg (show ¬ (47 : Int32) = 22 by decide)]
  rw [if_neg (show ¬ (47 : Int32) = 23 by decide)]
  rw [if_neg (show ¬ (47 : Int32) = 24 by decide)]
  rw [if_neg (show ¬ (47 : Int32) = 25 by decide)]
  rw [if_neg (show ¬ (47 : Int32) = 26 by decide)]
  rw [if_neg (show ¬ (47 : Int32) = 48 by decide)]
  rw [if_neg (show ¬ (47 : Int32) = 301 by decide)]
  show bvL 47 l r :: vs = _
  unfold bvL
  rw [if_neg (show ¬ (47 : Int32) = 27 by decide)]
  rw [if_neg (show ¬ (47 : Int32) = 29 by decide)]
  rw [if_neg (show ¬ (47 : Int32) = 30 by decide)]
  rw [if_neg (show ¬ (47 : Int32) = 42 by decide)]
  rw [if_neg (show ¬ (47 : Int32) = 43 by decide)]
  rw [if_neg (show ¬ (47 : Int32) = 45 by decide)]
  rw [if_pos (rfl : (47 : Int32) = 47)]
theorem okS_47 : okS (47, y) (r :: l :: vs) := ⟨fun h => absurd h (show ¬ ((47 : Int32) = 21 ∨ (47 : Int32) = 22 ∨ (47 : Int32) = 26 ∨ (47 : Int32) = 301) by decide), (Or.inr (Or.inr (Or.inr (Or.inr (Or.inr (Or.inr (Or.inr (Or.inr (Or.inr (Or.inr (Or.inr (Or.inr (show 2 ≤ (r :: l :: vs).length from Nat.le_add_left 2 _)))))))))))))⟩
theorem opS_60 : opS Q A0 (60, y) (r :: l :: vs) = ((if r ≤ l then 0 else 1)) :: vs := by
  unfold opS
  rw [if_neg (show ¬ (60 : Int32) = 5 by decide)]
  rw [if_neg (show ¬ (60 : Int32) = 18 by decide)]
  rw [if_neg (show ¬ (60 : Int32) = 19 by decide)]
  rw [if_neg (show ¬ (60 : Int32) = 20 by decide)]
  rw [if_neg (show ¬ (60 : Int32) = 21 by decide)]
  rw [if_neg (show ¬ (60 : Int32) = 22 by decide)]
  rw [if_neg (show ¬ (60 : Int32) = 23 by decide)]
  rw [if_neg (show ¬ (60 : Int32) = 24 by decide)]
  rw [if_neg (show ¬ (60 : Int32) = 25 by decide)]
  rw [if_neg (show ¬ (60 : Int32) = 26 by decide)]
  rw [if_neg (show ¬ (60 : Int32) = 48 by decide)]
  rw [if_neg (show ¬ (60 : Int32) = 301 by decide)]
  show bvL 60 l r :: vs = _
  unfold bvL
  rw [if_neg (show ¬ (60 : Int32) = 27 by decide)]
  rw [if_neg (show ¬ (60 : Int32) = 29 by decide)]
  rw [if_neg (show ¬ (60 : Int32) = 30 by decide)]
  rw [if_neg (show ¬ (60 : Int32) = 42 by decide)]
  rw [if_neg (show ¬ (60 : Int32) = 43 by decide)]
  rw [if_neg (show ¬ (60 : Int32) = 45 by decide)]
  rw [if_neg (show ¬ (60 : Int32) = 47 by decide)]
  rw [if_pos (rfl : (60 : Int32) = 60)]
theorem okS_60 : okS (60, y) (r :: l :: vs) := ⟨fun h => absurd h (show ¬ ((60 : Int32) = 21 ∨ (60 : Int32) = 22 ∨ (60 : Int32) = 26 ∨ (60 : Int32) = 301) by decide), (Or.inr (Or.inr (Or.inr (Or.inr (Or.inr (Or.inr (Or.inr (Or.inr (Or.inr (Or.inr (Or.inr (Or.inr (show 2 ≤ (r :: l :: vs).length from Nat.le_add_left 2 _)))))))))))))⟩
theorem opS_61 : opS Q A0 (61, y) (r :: l :: vs) = ((if l = r then 1 else 0)) :: vs := by
  unfold opS
  rw [if_neg (show ¬ (61 : Int32) = 5 by decide)]
  rw [if_neg (show ¬ (61 : Int32) = 18 by decide)]
  rw [if_neg (show ¬ (61 : Int32) = 19 by decide)]
  rw [if_neg (show ¬ (61 : Int32) = 20 by decide)]
  rw [if_neg (show ¬ (61 : Int32) = 21 by decide)]
  rw [if_neg (show ¬ (61 : Int32) = 22 by decide)]
  rw [if_neg (show ¬ (61 : Int32) = 23 by decide)]
  rw [if_neg (show ¬ (61 : Int32) = 24 by decide)]
  rw [if_neg (show ¬ (61 : Int32) = 25 by decide)]
  rw [if_neg (show ¬ (61 : Int32) = 26 by decide)]
  rw [if_neg (show ¬ (61 : Int32) = 48 by decide)]
  rw [if_neg (show ¬ (61 : Int32) = 301 by decide)]
  show bvL 61 l r :: vs = _
  unfold bvL
  rw [if_neg (show ¬ (61 : Int32) = 27 by decide)]
  rw [if_neg (show ¬ (61 : Int32) = 29 by decide)]
  rw [if_neg (show ¬ (61 : Int32) = 30 by decide)]
  rw [if_neg (show ¬ (61 : Int32) = 42 by decide)]
  rw [if_neg (show ¬ (61 : Int32) = 43 by decide)]
  rw [if_neg (show ¬ (61 : Int32) = 45 by decide)]
  rw [if_neg (show ¬ (61 : Int32) = 47 by decide)]
  rw [if_neg (show ¬ (61 : Int32) = 60 by decide)]
  rw [if_pos (rfl : (61 : Int32) = 61)]
theorem okS_61 : okS (61, y) (r :: l :: vs) := ⟨fun h => absurd h (show ¬ ((61 : Int32) = 21 ∨ (61 : Int32) = 22 ∨ (61 : Int32) = 26 ∨ (61 : Int32) = 301) by decide), (Or.inr (Or.inr (Or.inr (Or.inr (Or.inr (Or.inr (Or.inr (Or.inr (Or.inr (Or.inr (Or.inr (Or.inr (show 2 ≤ (r :: l :: vs).length from Nat.le_add_left 2 _)))))))))))))⟩
theorem opS_62 : opS Q A0 (62, y) (r :: l :: vs) = ((if l ≤ r then 0 else 1)) :: vs := by
  unfold opS
  rw [if_neg (show ¬ (62 : Int32) = 5 by decide)]
  rw [if_neg (show ¬ (62 : Int32) = 18 by decide)]
  rw [if_neg (show ¬ (62 : Int32) = 19 by decide)]
  rw [if_neg (show ¬ (62 : Int32) = 20 by decide)]
  rw [if_neg (show ¬ (62 : Int32) = 21 by decide)]
  rw [if_neg (show ¬ (62 : Int32) = 22 by decide)]
  rw [if_neg (show ¬ (62 : Int32) = 23 by decide)]
  rw [if_neg (show ¬ (62 : Int32) = 24 by decide)]
  rw [if_neg (show ¬ (62 : Int32) = 25 by decide)]
  rw [if_neg (show ¬ (62 : Int32) = 26 by decide)]
  rw [if_neg (show ¬ (62 : Int32) = 48 by decide)]
  rw [if_neg (show ¬ (62 : Int32) = 301 by decide)]
  show bvL 62 l r :: vs = _
  unfold bvL
  rw [if_neg (show ¬ (62 : Int32) = 27 by decide)]
  rw [if_neg (show ¬ (62 : Int32) = 29 by decide)]
  rw [if_neg (show ¬ (62 : Int32) = 30 by decide)]
  rw [if_neg (show ¬ (62 : Int32) = 42 by decide)]
  rw [if_neg (show ¬ (62 : Int32) = 43 by decide)]
  rw [if_neg (show ¬ (62 : Int32) = 45 by decide)]
  rw [if_neg (show ¬ (62 : Int32) = 47 by decide)]
  rw [if_neg (show ¬ (62 : Int32) = 60 by decide)]
  rw [if_neg (show ¬ (62 : Int32) = 61 by decide)]
  rw [if_pos (rfl : (62 : Int32) = 62)]
theorem okS_62 : okS (62, y) (r :: l :: vs) := ⟨fun h => absurd h (show ¬ ((62 : Int32) = 21 ∨ (62 : Int32) = 22 ∨ (62 : Int32) = 26 ∨ (62 : Int32) = 301) by decide), (Or.inr (Or.inr (Or.inr (Or.inr (Or.inr (Or.inr (Or.inr (Or.inr (Or.inr (Or.inr (Or.inr (Or.inr (show 2 ≤ (r :: l :: vs).length from Nat.le_add_left 2 _)))))))))))))⟩
theorem opS_316 : opS Q A0 (316, y) (r :: l :: vs) = ((if r < l then 0 else 1)) :: vs := by
  unfold opS
  rw [if_neg (show ¬ (316 : Int32) = 5 by decide)]
  rw [if_neg (show ¬ (316 : Int32) = 18 by decide)]
  rw [if_neg (show ¬ (316 : Int32) = 19 by decide)]
  rw [if_neg (show ¬ (316 : Int32) = 20 by decide)]
  rw [if_neg (show ¬ (316 : Int32) = 21 by decide)]
  rw [if_neg (show ¬ (316 : Int32) = 22 by decide)]
  rw [if_neg (show ¬ (316 : Int32) = 23 by decide)]
  rw [if_neg (show ¬ (316 : Int32) = 24 by decide)]
  rw [if_neg (show ¬ (316 : Int32) = 25 by decide)]
  rw [if_neg (show ¬ (316 : Int32) = 26 by decide)]
  rw [if_neg (show ¬ (316 : Int32) = 48 by decide)]
  rw [if_neg (show ¬ (316 : Int32) = 301 by decide)]
  show bvL 316 l r :: vs = _
  unfold bvL
  rw [if_neg (show ¬ (316 : Int32) = 27 by decide)]
  rw [if_neg (show ¬ (316 : Int32) = 29 by decide)]
  rw [if_neg (show ¬ (316 : Int32) = 30 by decide)]
  rw [if_neg (show ¬ (316 : Int32) = 42 by decide)]
  rw [if_neg (show ¬ (316 : Int32) = 43 by decide)]
  rw [if_neg (show ¬ (316 : Int32) = 45 by decide)]
  rw [if_neg (show ¬ (316 : Int32) = 47 by decide)]
  rw [if_neg (show ¬ (316 : Int32) = 60 by decide)]
  rw [if_neg (show ¬ (316 : Int32) = 61 by decide)]
  rw [if_neg (show ¬ (316 : Int32) = 62 by decide)]
  rw [if_pos (rfl : (316 : Int32) = 316)]
theorem okS_316 : okS (316, y) (r :: l :: vs) := ⟨fun h => absurd h (show ¬ ((316 : Int32) = 21 ∨ (316 : Int32) = 22 ∨ (316 : Int32) = 26 ∨ (316 : Int32) = 301) by decide), (Or.inr (Or.inr (Or.inr (Or.inr (Or.inr (Or.inr (Or.inr (Or.inr (Or.inr (Or.inr (Or.inr (Or.inr (show 2 ≤ (r :: l :: vs).length from Nat.le_add_left 2 _)))))))))))))⟩
theorem opS_318 : opS Q A0 (318, y) (r :: l :: vs) = ((if l < r then 0 else 1)) :: vs := by
  unfold opS
  rw [if_neg (show ¬ (318 : Int32) = 5 by decide)]
  rw [if_neg (show ¬ (318 : Int32) = 18 by decide)]
  rw [if_neg (show ¬ (318 : Int32) = 19 by decide)]
  rw [if_neg (show ¬ (318 : Int32) = 20 by decide)]
  rw [if_neg (show ¬ (318 : Int32) = 21 by decide)]
  rw [if_neg (show ¬ (318 : Int32) = 22 by decide)]
  rw [if_neg (show ¬ (318 : Int32) = 23 by decide)]
  rw [if_neg (show ¬ (318 : Int32) = 24 by decide)]
  rw [if_neg (show ¬ (318 : Int32) = 25 by decide)]
  rw [if_neg (show ¬ (318 : Int32) = 26 by decide)]
  rw [if_neg (show ¬ (318 : Int32) = 48 by decide)]
  rw [if_neg (show ¬ (318 : Int32) = 301 by decide)]
  show bvL 318 l r :: vs = _
  unfold bvL
  rw [if_neg (show ¬ (318 : Int32) = 27 by decide)]
  rw [if_neg (show ¬ (318 : Int32) = 29 by decide)]
  rw [if_neg (show ¬ (318 : Int32) = 30 by decide)]
  rw [if_neg (show ¬ (318 : Int32) = 42 by decide)]
  rw [if_neg (show ¬ (318 : Int32) = 43 by decide)]
  rw [if_neg (show ¬ (318 : Int32) = 45 by decide)]
  rw [if_neg (show ¬ (318 : Int32) = 47 by decide)]
  rw [if_neg (show ¬ (318 : Int32) = 60 by decide)]
  rw [if_neg (show ¬ (318 : Int32) = 61 by decide)]
  rw [if_neg (show ¬ (318 : Int32) = 62 by decide)]
  rw [if_neg (show ¬ (318 : Int32) = 316 by decide)]
  rw [if_pos (rfl : (318 : Int32) = 318)]
theorem okS_318 : okS (318, y) (r :: l :: vs) := ⟨fun h => absurd h (show ¬ ((318 : Int32) = 21 ∨ (318 : Int32) = 22 ∨ (318 : Int32) = 26 ∨ (318 : Int32) = 301) by decide), (Or.inr (Or.inr (Or.inr (Or.inr (Or.inr (Or.inr (Or.inr (Or.inr (Or.inr (Or.inr (Or.inr (Or.inr (show 2 ≤ (r :: l :: vs).length from Nat.le_add_left 2 _)))))))))))))⟩
/-- an order's sum and test, compiled -/
def cSu (own : Nat → Int32) : List (Int32 × Int32) := if own 2 = 0 then [(48, own 3 - own 3 / 45 * 45)] else if own 2 = 1 then [(5, own 8), (48, own 6), (43, 0), (48, 3), (45, 0)] else if own 2 = 2 then [(48, own 6), (21, 0), (48, own 3), (29, 0), (48, 2), (45, 0)] else if own 2 = 3 then [(24, own 9), (48, 0), (30, 0), (48, 2), (42, 0), (48, 2), (47, 0)] else if own 2 = 4 then [(18, 0), (18, 0), (48, 9), (47, 0), (48, 9), (42, 0), (45, 0), (19, 0), (43, 0)] else [(48, 2), (301, 0), (48, own 6), (43, 0)]
def cHo (own : Nat → Int32) : List (Int32 × Int32) := if own 4 = -1 then [] else if own 4 = 0 then [(18, 0), (48, own 5), (48, 4), (47, 0), (62, 0)] else if own 4 = 1 then [(25, own 7)] else if own 4 = 2 then [(25, own 7), (26, 0)] else if own 4 = 3 then [(48, own 6), (21, 0), (48, own 5), (318, 0)] else if own 4 = 4 then [(23, own 8), (48, 0), (61, 0), (5, own 8), (48, own 6), (62, 0), (28, 0)] else if own 4 = 5 then [(20, 0), (48, own 5), (48, 30), (42, 0), (60, 0), (19, 0), (48, 0), (318, 0), (27, 0), (18, 0), (48, own 5), (61, 0), (26, 0), (28, 0)] else if own 4 = 6 then [(48, own 6), (22, 0), (48, 2), (42, 0), (48, own 5), (24, own 9), (45, 0), (62, 0)] else [(48, own 5), (48, 2), (47, 0), (48, 2), (42, 0), (48, own 5), (61, 0)]
/-- rows behind the last pane are empty -/
def RZ (A : Mem) (n : Nat → Nat) : Prop := ∀ p, n 2 ≤ p → A 1 p = 0 ∧ A 2 p = 0
/-- no dirt and no cracks on what was let go -/
def PG (M : Mm) (n : Nat → Nat) : Prop := ∀ p, p < n 2 → M 2 p 3 = 0 ∨ (M 2 p 3 = 1 ∧ M 2 p 1 = 0 ∧ M 2 p 2 = 0)
theorem of_1 (hP : RP Q M n fb) (hS : RS A M n) (hZ : RZ A n) (hG : PG M n) {x : Nat} (hx : x < 40) : ca 40 (A 1) (nI x) = sOf M n (nI x) 1 := by
  have n2 := hP.2.1.2.1
  unfold sOf
  rw [ca_n hx (by decide), if_neg (nI_pos (by omega))]
  by_cases c : n 2 ≤ x
  · rw [if_pos (nI_le c (by omega)), (hZ x c).1]
  · rw [if_neg (nI_ge (by omega) (by omega)), nI_clamp (by omega), (hS.2.1 x (by omega)).1]
    rcases hG x (by omega) with h | ⟨h, h1, h2⟩
    · rw [if_neg (by rw [h]; decide)]
    · rw [if_pos h, h1]
theorem of_2 (hP : RP Q M n fb) (hS : RS A M n) (hZ : RZ A n) (hG : PG M n) {x : Nat} (hx : x < 40) : ca 40 (A 2) (nI x) = sOf M n (nI x) 2 := by
  have n2 := hP.2.1.2.1
  unfold sOf
  rw [ca_n hx (by decide), if_neg (nI_pos (by omega))]
  by_cases c : n 2 ≤ x
  · rw [if_pos (nI_le c (by omega)), (hZ x c).2]
  · rw [if_neg (nI_ge (by omega) (by omega)), nI_clamp (by omega), (hS.2.1 x (by omega)).2.1]
    rcases hG x (by omega) with h | ⟨h, h1, h2⟩
    · rw [if_neg (by rw [h]; decide)]
    · rw [if_pos h, h2]
theorem ca_vx {a : Nat → Int32} {m N : Nat} (hv : vx v m) (hm : m ≤ N) (hN : N ≤ 50000000) : ca N a v = a v.toNatClampNeg := by
  have h := hv.2
  have e := hv.1
  rw [e, ca_n (by omega) hN, nI_clamp (by omega)]

theorem cSu_eq (hP : RP Q M n fb) (hS : RS A M n) (hZ : RZ A n) (hG : PG M n) (hB : PB' M n B) (hB2 : B < 2 ^ 30) (ho : vO M n k) (h6 : ∃ x, M 6 k 6 = nI x ∧ x < 40) : opP Q A (cSu (M 6 k)) [] = [sSu M n k] ∧ okP Q A (cSu (M 6 k)) [] := by
  obtain ⟨x, hx, hx2⟩ := h6
  have n4 := hP.2.1.2.2.2.2.1
  have n5 := hP.2.1.2.2.2.2.2.1
  have e8 := ca_vx (a := A 4) ho.2.1 n4 (by decide)
  have e9 := ca_vx (a := A 7) ho.2.2 n5 (by decide)
  have f8 := (hS.2.2.1 _ ho.2.1.2).1
  have f9 := (hS.2.2.2 _ ho.2.2.2).1
  have d2 : ¬ (2 : Int32) = 0 := by decide
  have d9 : ¬ (9 : Int32) = 0 := by decide
  unfold cSu sSu
  by_cases c0 : M 6 k 2 = 0
  · rw [if_pos c0, if_pos c0]
    exact ⟨by simp only [opP, List.foldl_cons, List.foldl_nil, opS_5, opS_18, opS_19, opS_20, opS_21, opS_22, opS_23, opS_24, opS_25, opS_26, opS_48, opS_301, opS_27, opS_28, opS_29, opS_30, opS_42, opS_43, opS_45, opS_47, opS_60, opS_61, opS_62, opS_316, opS_318, e8, e9, f8, f9, d2, d9, if_false, hS.1.1, hS.1.2.1], by simp only [okP, okS_5, okS_18, okS_19, okS_20, okS_21, okS_22, okS_23, okS_24, okS_25, okS_26, okS_48, okS_301, okS_27, okS_28, okS_29, okS_30, okS_42, okS_43, okS_45, okS_47, okS_60, okS_61, okS_62, okS_316, okS_318, opS_5, opS_18, opS_19, opS_20, opS_21, opS_22, opS_23, opS_24, opS_25, opS_26, opS_48, opS_301, opS_27, opS_28, opS_29, opS_30, opS_42, opS_43, opS_45, opS_47, opS_60, opS_61, opS_62, opS_316, opS_318, and_self]⟩
  rw [if_neg c0, if_neg c0]
  by_cases c1 : M 6 k 2 = 1
  · rw [if_pos c1, if_pos c1]
    exact ⟨by simp only [opP, List.foldl_cons, List.foldl_nil, opS_5, opS_18, opS_19, opS_20, opS_21, opS_22, opS_23, opS_24, opS_25, opS_26, opS_48, opS_301, opS_27, opS_28, opS_29, opS_30, opS_42, opS_43, opS_45, opS_47, opS_60, opS_61, opS_62, opS_316, opS_318, e8, e9, f8, f9, d2, d9, if_false, hS.1.1, hS.1.2.1], by simp only [okP, okS_5, okS_18, okS_19, okS_20, okS_21, okS_22, okS_23, okS_24, okS_25, okS_26, okS_48, okS_301, okS_27, okS_28, okS_29, okS_30, okS_42, okS_43, okS_45, okS_47, okS_60, okS_61, okS_62, okS_316, okS_318, opS_5, opS_18, opS_19, opS_20, opS_21, opS_22, opS_23, opS_24, opS_25, opS_26, opS_48, opS_301, opS_27, opS_28, opS_29, opS_30, opS_42, opS_43, opS_45, opS_47, opS_60, opS_61, opS_62, opS_316, opS_318, and_self]⟩
  rw [if_neg c1, if_neg c1]
  by_cases c2 : M 6 k 2 = 2
  · rw [if_pos c2, if_pos c2]
    rw [hx]
    exact ⟨by simp only [opP, List.foldl_cons, List.foldl_nil, opS_5, opS_18, opS_19, opS_20, opS_21, opS_22, opS_23, opS_24, opS_25, opS_26, opS_48, opS_301, opS_27, opS_28, opS_29, opS_30, opS_42, opS_43, opS_45, opS_47, opS_60, opS_61, opS_62, opS_316, opS_318, e8, e9, f8, f9, d2, d9, if_false, hS.1.1, hS.1.2.1, of_1 hP hS hZ hG hx2], by simp only [okP, okS_5, okS_18, okS_19, okS_20, okS_21, okS_22, okS_23, okS_24, okS_25, okS_26, okS_48, okS_301, okS_27, okS_28, okS_29, okS_30, okS_42, okS_43, okS_45, okS_47, okS_60, okS_61, okS_62, okS_316, okS_318, opS_5, opS_18, opS_19, opS_20, opS_21, opS_22, opS_23, opS_24, opS_25, opS_26, opS_48, opS_301, opS_27, opS_28, opS_29, opS_30, opS_42, opS_43, opS_45, opS_47, opS_60, opS_61, opS_62, opS_316, opS_318, and_self]⟩
  rw [if_neg c2, if_neg c2]
  by_cases c3 : M 6 k 2 = 3
  · rw [if_pos c3, if_pos c3]
    exact ⟨by simp only [opP, List.foldl_cons, List.foldl_nil, opS_5, opS_18, opS_19, opS_20, opS_21, opS_22, opS_23, opS_24, opS_25, opS_26, opS_48, opS_301, opS_27, opS_28, opS_29, opS_30, opS_42, opS_43, opS_45, opS_47, opS_60, opS_61, opS_62, opS_316, opS_318, e8, e9, f8, f9, d2, d9, if_false, hS.1.1, hS.1.2.1], by simp only [okP, okS_5, okS_18, okS_19, okS_20, okS_21, okS_22, okS_23, okS_24, okS_25, okS_26, okS_48, okS_301, okS_27, okS_28, okS_29, okS_30, okS_42, okS_43, okS_45, okS_47, okS_60, okS_61, okS_62, okS_316, okS_318, opS_5, opS_18, opS_19, opS_20, opS_21, opS_22, opS_23, opS_24, opS_25, opS_26, opS_48, opS_301, opS_27, opS_28, opS_29, opS_30, opS_42, opS_43, opS_45, opS_47, opS_60, opS_61, opS_62, opS_316, opS_318, and_self]⟩
  rw [if_neg c3, if_neg c3]
  by_cases c4 : M 6 k 2 = 4
  · rw [if_pos c4, if_pos c4]
    exact ⟨by simp only [opP, List.foldl_cons, List.foldl_nil, opS_5, opS_18, opS_19, opS_20, opS_21, opS_22, opS_23, opS_24, opS_25, opS_26, opS_48, opS_301, opS_27, opS_28, opS_29, opS_30, opS_42, opS_43, opS_45, opS_47, opS_60, opS_61, opS_62, opS_316, opS_318, e8, e9, f8, f9, d2, d9, if_false, hS.1.1, hS.1.2.1], by simp only [okP, okS_5, okS_18, okS_19, okS_20, okS_21, okS_22, okS_23, okS_24, okS_25, okS_26, okS_48, okS_301, okS_27, okS_28, okS_29, okS_30, okS_42, okS_43, okS_45, okS_47, okS_60, okS_61, okS_62, okS_316, okS_318, opS_5, opS_18, opS_19, opS_20, opS_21, opS_22, opS_23, opS_24, opS_25, opS_26, opS_48, opS_301, opS_27, opS_28, opS_29, opS_30, opS_42, opS_43, opS_45, opS_47, opS_60, opS_61, opS_62, opS_316, opS_318, and_self]⟩
  rw [if_neg c4, if_neg c4]
  exact ⟨by simp only [opP, List.foldl_cons, List.foldl_nil, opS_5, opS_18, opS_19, opS_20, opS_21, opS_22, opS_23, opS_24, opS_25, opS_26, opS_48, opS_301, opS_27, opS_28, opS_29, opS_30, opS_42, opS_43, opS_45, opS_47, opS_60, opS_61, opS_62, opS_316, opS_318]; rw [Int32.add_comm, ← Int32.sub_eq_add_neg], by simp only [okP, okS_5, okS_18, okS_19, okS_20, okS_21, okS_22, okS_23, okS_24, okS_25, okS_26, okS_48, okS_301, okS_27, okS_28, okS_29, okS_30, okS_42, okS_43, okS_45, okS_47, okS_60, okS_61, okS_62, okS_316, okS_318, opS_5, opS_18, opS_19, opS_20, opS_21, opS_22, opS_23, opS_24, opS_25, opS_26, opS_48, opS_301, opS_27, opS_28, opS_29, opS_30, opS_42, opS_43, opS_45, opS_47, opS_60, opS_61, opS_62, opS_316, opS_318, and_self]⟩
theorem cHo_eq (hP : RP Q M n fb) (hS : RS A M n) (hZ : RZ A n) (hG : PG M n) (hB : PB' M n B) (hB2 : B < 2 ^ 30) (ho : vO M n k) (h6 : ∃ x, M 6 k 6 = nI x ∧ x < 40) (hne : ¬ M 6 k 4 = -1) : opP Q A (cHo (M 6 k)) [] = [b01 (sHo M n k)] ∧ okP Q A (cHo (M 6 k)) [] := by
  obtain ⟨x, hx, hx2⟩ := h6
  have n1 := hP.2.1.1
  have n4 := hP.2.1.2.2.2.2.1
  have n5 := hP.2.1.2.2.2.2.2.1
  have e8 := ca_vx (a := A 4) ho.2.1 n4 (by decide)
  have e8' := ca_vx (a := A 5) ho.2.1 n4 (by decide)
  have e9 := ca_vx (a := A 7) ho.2.2 n5 (by decide)
  have f8 := (hS.2.2.1 _ ho.2.1.2).1
  have f8' := (hS.2.2.1 _ ho.2.1.2).2.1
  have f9 := (hS.2.2.2 _ ho.2.2.2).1
  have e7 : daL Q A (M 6 k 7) = sDa M n (M 6 k 7) := by
    have := daL_k hP hS hB hB2 ho.1.2
    rw [← ho.1.1] at this
    exact this
  have d2 : ¬ (2 : Int32) = 0 := by decide
  have d4 : ¬ (4 : Int32) = 0 := by decide
  have hl := light_eq hP hS hB hB2
  have bb : ∀ (p : Prop) [Decidable p], b01 (if p then true else false) = if p then 1 else 0 := fun p _ => by by_cases h : p <;> simp [h, b01]
  have bn : ∀ (p : Prop) [Decidable p], b01 (if p then false else true) = if p then 0 else 1 := fun p _ => by by_cases h : p <;> simp [h, b01]
  unfold cHo sHo
  rw [if_neg hne, if_neg hne]
  by_cases c0 : M 6 k 4 = 0
  · rw [if_pos c0, if_pos c0]
    refine ⟨?_, by simp only [okP, okS_5, okS_18, okS_19, okS_20, okS_21, okS_22, okS_23, okS_24, okS_25, okS_26, okS_48, okS_301, okS_27, okS_28, okS_29, okS_30, okS_42, okS_43, okS_45, okS_47, okS_60, okS_61, okS_62, okS_316, okS_318, opS_5, opS_18, opS_19, opS_20, opS_21, opS_22, opS_23, opS_24, opS_25, opS_26, opS_48, opS_301, opS_27, opS_28, opS_29, opS_30, opS_42, opS_43, opS_45, opS_47, opS_60, opS_61, opS_62, opS_316, opS_318, and_self]⟩
    · simp only [opP, List.foldl_cons, List.foldl_nil, opS_5, opS_18, opS_19, opS_20, opS_21, opS_22, opS_23, opS_24, opS_25, opS_26, opS_48, opS_301, opS_27, opS_28, opS_29, opS_30, opS_42, opS_43, opS_45, opS_47, opS_60, opS_61, opS_62, opS_316, opS_318, e8, e8', e9, f8, f8', f9, e7, d2, d4, hl, if_false, hS.1.1, hS.1.2.1, bb, bn]
  rw [if_neg c0, if_neg c0]
  by_cases c1 : M 6 k 4 = 1
  · rw [if_pos c1, if_pos c1]
    refine ⟨?_, by simp only [okP, okS_5, okS_18, okS_19, okS_20, okS_21, okS_22, okS_23, okS_24, okS_25, okS_26, okS_48, okS_301, okS_27, okS_28, okS_29, okS_30, okS_42, okS_43, okS_45, okS_47, okS_60, okS_61, okS_62, okS_316, okS_318, opS_5, opS_18, opS_19, opS_20, opS_21, opS_22, opS_23, opS_24, opS_25, opS_26, opS_48, opS_301, opS_27, opS_28, opS_29, opS_30, opS_42, opS_43, opS_45, opS_47, opS_60, opS_61, opS_62, opS_316, opS_318, and_self]⟩
    · simp only [opP, List.foldl_cons, List.foldl_nil, opS_5, opS_18, opS_19, opS_20, opS_21, opS_22, opS_23, opS_24, opS_25, opS_26, opS_48, opS_301, opS_27, opS_28, opS_29, opS_30, opS_42, opS_43, opS_45, opS_47, opS_60, opS_61, opS_62, opS_316, opS_318, e8, e8', e9, f8, f8', f9, e7, d2, d4, hl, if_false, hS.1.1, hS.1.2.1, bb, bn]
  rw [if_neg c1, if_neg c1]
  by_cases c2 : M 6 k 4 = 2
  · rw [if_pos c2, if_pos c2]
    refine ⟨?_, by simp only [okP, okS_5, okS_18, okS_19, okS_20, okS_21, okS_22, okS_23, okS_24, okS_25, okS_26, okS_48, okS_301, okS_27, okS_28, okS_29, okS_30, okS_42, okS_43, okS_45, okS_47, okS_60, okS_61, okS_62, okS_316, okS_318, opS_5, opS_18, opS_19, opS_20, opS_21, opS_22, opS_23, opS_24, opS_25, opS_26, opS_48, opS_301, opS_27, opS_28, opS_29, opS_30, opS_42, opS_43, opS_45, opS_47, opS_60, opS_61, opS_62, opS_316, opS_318, and_self]⟩
    · simp only [opP, List.foldl_cons, List.foldl_nil, opS_5, opS_18, opS_19, opS_20, opS_21, opS_22, opS_23, opS_24, opS_25, opS_26, opS_48, opS_301, opS_27, opS_28, opS_29, opS_30, opS_42, opS_43, opS_45, opS_47, opS_60, opS_61, opS_62, opS_316, opS_318, e8, e8', e9, f8, f8', f9, e7, d2, d4, hl, if_false, hS.1.1, hS.1.2.1, bb, bn]
      refine congrArg (fun z => [z]) ?_
      unfold sDa
      have : 40 * M 1 (M 6 k 7).toNatClampNeg 0 = M 1 (M 6 k 7).toNatClampNeg 0 * 40 := Int32.mul_comm _ _
      rw [this]
      by_cases h : M 1 (M 6 k 7).toNatClampNeg 0 * 40 ≤ sLf M n (M 6 k 7)
      · rw [if_pos h, if_neg (Int32.not_lt.mpr h)]; decide
      · rw [if_neg h, if_pos (Int32.not_le.mp h)]; decide
  rw [if_neg c2, if_neg c2]
  by_cases c3 : M 6 k 4 = 3
  · rw [if_pos c3, if_pos c3]
    rw [hx]
    refine ⟨?_, by simp only [okP, okS_5, okS_18, okS_19, okS_20, okS_21, okS_22, okS_23, okS_24, okS_25, okS_26, okS_48, okS_301, okS_27, okS_28, okS_29, okS_30, okS_42, okS_43, okS_45, okS_47, okS_60, okS_61, okS_62, okS_316, okS_318, opS_5, opS_18, opS_19, opS_20, opS_21, opS_22, opS_23, opS_24, opS_25, opS_26, opS_48, opS_301, opS_27, opS_28, opS_29, opS_30, opS_42, opS_43, opS_45, opS_47, opS_60, opS_61, opS_62, opS_316, opS_318, and_self]⟩
    · simp only [opP, List.foldl_cons, List.foldl_nil, opS_5, opS_18, opS_19, opS_20, opS_21, opS_22, opS_23, opS_24, opS_25, opS_26, opS_48, opS_301, opS_27, opS_28, opS_29, opS_30, opS_42, opS_43, opS_45, opS_47, opS_60, opS_61, opS_62, opS_316, opS_318, e8, e8', e9, f8, f8', f9, e7, d2, d4, hl, if_false, hS.1.1, hS.1.2.1, bb, bn, of_1 hP hS hZ hG hx2]
  rw [if_neg c3, if_neg c3]
  by_cases c4 : M 6 k 4 = 4
  · rw [if_pos c4, if_pos c4]
    refine ⟨?_, by simp only [okP, okS_5, okS_18, okS_19, okS_20, okS_21, okS_22, okS_23, okS_24, okS_25, okS_26, okS_48, okS_301, okS_27, okS_28, okS_29, okS_30, okS_42, okS_43, okS_45, okS_47, okS_60, okS_61, okS_62, okS_316, okS_318, opS_5, opS_18, opS_19, opS_20, opS_21, opS_22, opS_23, opS_24, opS_25, opS_26, opS_48, opS_301, opS_27, opS_28, opS_29, opS_30, opS_42, opS_43, opS_45, opS_47, opS_60, opS_61, opS_62, opS_316, opS_318, and_self]⟩
    · simp only [opP, List.foldl_cons, List.foldl_nil, opS_5, opS_18, opS_19, opS_20, opS_21, opS_22, opS_23, opS_24, opS_25, opS_26, opS_48, opS_301, opS_27, opS_28, opS_29, opS_30, opS_42, opS_43, opS_45, opS_47, opS_60, opS_61, opS_62, opS_316, opS_318, e8, e8', e9, f8, f8', f9, e7, d2, d4, hl, if_false, hS.1.1, hS.1.2.1, bb, bn]
      refine congrArg (fun z => [z]) ?_
      by_cases h : M 4 (M 6 k 8).toNatClampNeg 3 = 0
      · rw [if_pos h, if_pos h]
        by_cases h' : M 4 (M 6 k 8).toNatClampNeg 0 ≤ M 6 k 6 <;> simp only [h', if_true, if_false] <;> decide
      · rw [if_neg h, if_neg h]
        by_cases h' : M 4 (M 6 k 8).toNatClampNeg 0 ≤ M 6 k 6 <;> simp only [h', if_true, if_false] <;> decide
  rw [if_neg c4, if_neg c4]
  by_cases c5 : M 6 k 4 = 5
  · rw [if_pos c5, if_pos c5]
    refine ⟨?_, by simp only [okP, okS_5, okS_18, okS_19, okS_20, okS_21, okS_22, okS_23, okS_24, okS_25, okS_26, okS_48, okS_301, okS_27, okS_28, okS_29, okS_30, okS_42, okS_43, okS_45, okS_47, okS_60, okS_61, okS_62, okS_316, okS_318, opS_5, opS_18, opS_19, opS_20, opS_21, opS_22, opS_23, opS_24, opS_25, opS_26, opS_48, opS_301, opS_27, opS_28, opS_29, opS_30, opS_42, opS_43, opS_45, opS_47, opS_60, opS_61, opS_62, opS_316, opS_318, and_self]⟩
    · simp only [opP, List.foldl_cons, List.foldl_nil, opS_5, opS_18, opS_19, opS_20, opS_21, opS_22, opS_23, opS_24, opS_25, opS_26, opS_48, opS_301, opS_27, opS_28, opS_29, opS_30, opS_42, opS_43, opS_45, opS_47, opS_60, opS_61, opS_62, opS_316, opS_318, e8, e8', e9, f8, f8', f9, e7, d2, d4, hl, if_false, hS.1.1, hS.1.2.1, bb, bn]
      refine congrArg (fun z => [z]) ?_
      by_cases h : M 6 k 5 * 30 ≤ sLf M n (-1)
      · rw [if_pos h, if_pos h]
        by_cases h' : M 0 0 0 = M 6 k 5
        · rw [if_pos h', if_pos h']
          by_cases h2 : M 0 0 1 < 0
          · rw [if_pos h2]; decide
          · rw [if_neg h2]; decide
        · rw [if_neg h', if_neg h']
          by_cases h2 : M 0 0 1 < 0
          · rw [if_pos h2]; decide
          · rw [if_neg h2]; decide
      · rw [if_neg h, if_neg h]
        by_cases h2 : M 0 0 1 < 0
        · rw [if_pos h2, if_neg (Int32.not_le.mpr h2)]
          by_cases h' : M 0 0 0 = M 6 k 5
          · rw [if_pos h', if_pos h']; decide
          · rw [if_neg h', if_neg h']; decide
        · rw [if_neg h2, if_pos (Int32.not_lt.mp h2)]
          by_cases h' : M 0 0 0 = M 6 k 5
          · rw [if_pos h']; decide
          · rw [if_neg h']; decide
  rw [if_neg c5, if_neg c5]
  by_cases c6 : M 6 k 4 = 6
  · rw [if_pos c6, if_pos c6]
    rw [hx]
    refine ⟨?_, by simp only [okP, okS_5, okS_18, okS_19, okS_20, okS_21, okS_22, okS_23, okS_24, okS_25, okS_26, okS_48, okS_301, okS_27, okS_28, okS_29, okS_30, okS_42, okS_43, okS_45, okS_47, okS_60, okS_61, okS_62, okS_316, okS_318, opS_5, opS_18, opS_19, opS_20, opS_21, opS_22, opS_23, opS_24, opS_25, opS_26, opS_48, opS_301, opS_27, opS_28, opS_29, opS_30, opS_42, opS_43, opS_45, opS_47, opS_60, opS_61, opS_62, opS_316, opS_318, and_self]⟩
    · simp only [opP, List.foldl_cons, List.foldl_nil, opS_5, opS_18, opS_19, opS_20, opS_21, opS_22, opS_23, opS_24, opS_25, opS_26, opS_48, opS_301, opS_27, opS_28, opS_29, opS_30, opS_42, opS_43, opS_45, opS_47, opS_60, opS_61, opS_62, opS_316, opS_318, e8, e8', e9, f8, f8', f9, e7, d2, d4, hl, if_false, hS.1.1, hS.1.2.1, bb, bn, of_2 hP hS hZ hG hx2]
  rw [if_neg c6, if_neg c6]
  refine ⟨?_, by simp only [okP, okS_5, okS_18, okS_19, okS_20, okS_21, okS_22, okS_23, okS_24, okS_25, okS_26, okS_48, okS_301, okS_27, okS_28, okS_29, okS_30, okS_42, okS_43, okS_45, okS_47, okS_60, okS_61, okS_62, okS_316, okS_318, opS_5, opS_18, opS_19, opS_20, opS_21, opS_22, opS_23, opS_24, opS_25, opS_26, opS_48, opS_301, opS_27, opS_28, opS_29, opS_30, opS_42, opS_43, opS_45, opS_47, opS_60, opS_61, opS_62, opS_316, opS_318, and_self]⟩
  simp only [opP, List.foldl_cons, List.foldl_nil, opS_5, opS_18, opS_19, opS_20, opS_21, opS_22, opS_23, opS_24, opS_25, opS_26, opS_48, opS_301, opS_27, opS_28, opS_29, opS_30, opS_42, opS_43, opS_45, opS_47, opS_60, opS_61, opS_62, opS_316, opS_318, e8, e8', e9, f8, f8', f9, e7, d2, d4, hl, if_false, hS.1.1, hS.1.2.1, bb, bn]
  refine congrArg (fun z => [z]) ?_
  by_cases h : M 6 k 5 / 2 * 2 = M 6 k 5
  · rw [if_pos h, if_pos (by rw [h]; exact Int32.sub_self _)]
  · rw [if_neg h, if_neg (fun e => h (by
      have := congrArg (fun z => z + M 6 k 5 / 2 * 2) e
      simp only [Int32.sub_add_cancel, Int32.zero_add] at this
      exact this.symm))]
end PURE3
