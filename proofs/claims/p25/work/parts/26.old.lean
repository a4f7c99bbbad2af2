/-! THE START: old cells, constants and statics of the small machine. -/
theorem ixs_fit {l : List Int32} (h : l.all (fun x => fits .byte (.int x)) = true) (j : Nat) : fits .byte (.int (l.getD j 0)) = true := by
  rw [List.getD_eq_getElem?_getD]
  cases hj : l[j]? with
  | none => decide
  | some x => exact List.all_eq_true.mp h x (List.mem_of_getElem? hj)
theorem ixs_fit1 : ixS.all (fun l => l.all (fun x => fits .byte (.int x))) = true := by decide +kernel
theorem ixs_fit2 : ixD1.all (fun x => fits .byte (.int x)) = true ∧ ixD2.all (fun x => fits .byte (.int x)) = true := by decide +kernel
theorem ixs_fitS (i : Nat) : (ixS.getD i []).all (fun x => fits .byte (.int x)) = true := by
  rw [List.getD_eq_getElem?_getD]
  cases hj : ixS[i]? with
  | none => rfl
  | some l => exact List.all_eq_true.mp ixs_fit1 l (List.mem_of_getElem? hj)
theorem ixs_kt : ixKT.all (fun e => match e.2.2.1 with
    | .ref k => (match ixON[e.1]? with
      | some own => decide (k % 2 = 1 ∧ k < 95 ∧ ixKS.getD (k / 2) ("", 0, "") = (own, e.2.1, e.2.2.2))
      | none => true)
    | _ => true) = true := by decide +kernel
theorem ixs_ro {L : Nat} {xs : Nat → Int32} {k : Nat} {x : ix_C} (h : (ixRO L xs)[k]? = some x) : (k = 0 ∧ x = .inl (0, L, .inl xs)) ∨ (∃ i, i < 47 ∧ ((k = 2 * i + 1 ∧ x = .inr (8, [.ref (2 * i + 2), .int 0])) ∨ (k = 2 * i + 2 ∧ x = .inl (2, (ixS.getD i []).length, .inl (fun j => (ixS.getD i []).getD j 0))))) ∨ (k = 95 ∧ x = .inl (2, 100, .inl (fun j => ixD1.getD j 0))) ∨ (k = 96 ∧ x = .inl (2, 100, .inl (fun j => ixD2.getD j 0))) ∨ (k = 97 ∧ x = .inl (99, 0, .inr (.inr (.inl (fun _ => 0))))) := by
  unfold ixRO at h
  cases k with
  | zero => cases h; exact Or.inl ⟨rfl, rfl⟩
  | succ k =>
    rw [List.getElem?_cons_succ] at h
    rcases Nat.lt_or_ge k 94 with g | g
    · rw [List.getElem?_append_left (by rw [(ixs_fm 47).1]; exact g)] at h
      obtain ⟨i, h1, h2⟩ := (ixs_fm 47).2 k x h
      refine Or.inr (Or.inl ⟨i, h1, ?_⟩)
      rcases h2 with ⟨e, h2⟩ | ⟨e, h2⟩
      · exact Or.inl ⟨by omega, h2⟩
      · exact Or.inr ⟨by omega, h2⟩
    · rw [List.getElem?_append_right (by rw [(ixs_fm 47).1]; exact g), (ixs_fm 47).1] at h
      match hk : k - 2 * 47 with
      | 0 => rw [hk] at h; cases h; exact Or.inr (Or.inr (Or.inl ⟨by omega, rfl⟩))
      | 1 => rw [hk] at h; cases h; exact Or.inr (Or.inr (Or.inr (Or.inl ⟨by omega, rfl⟩)))
      | 2 => rw [hk] at h; cases h; exact Or.inr (Or.inr (Or.inr (Or.inr ⟨by omega, rfl⟩)))
      | m + 3 => rw [hk] at h; simp at h
theorem ixs_len (L : Nat) (xs : Nat → Int32) : (ixRO L xs).length = 98 := by
  unfold ixRO
  rw [List.length_cons, List.length_append, (ixs_fm 47).1]
  rfl
theorem ixs_O {s : State} {args : Array Value} {b L : Nat} {xs : Nat → Int32} (hts : ∀ w ∈ lw_tb2, w.before args s = true) (hN : ∀ w ∈ flatC ixsN, w.before args s = true) (hX : va_X b L xs s s.heap) (hbl : b < s.heap.size) : ∃ (fv : Value) (ad : Nat → Nat), (fv = .null ∨ fv = .ref 97) ∧ ad 0 = b ∧ ix_O (ixP fv) ad (fun q => s.heap.size ≤ q) (ixRO L xs) s := by
  have hA : ∀ a : Nat, a < s.heap.size → ¬ (fun q => s.heap.size ≤ q) a := fun a h => Nat.not_le_of_lt h
  obtain ⟨K, V, hS⟩ := ixs_str hN hA
  have hg := fun w hw => hN w (ixs_G w hw)
  have hG1 : ∀ w ∈ ixsG "DigitOnes" ixD1, w.before args s = true := fun w hw => hg w (List.mem_append_left _ hw)
  have hG2 : ∀ w ∈ ixsG "DigitTens" ixD2, w.before args s = true := fun w hw => hg w (List.mem_append_right _ hw)
  obtain ⟨o, ho, hoT⟩ := va_Tof (tm := ixsD "DigitOnes") (ty := .byte) (N := 100) (f := fun j => .int (ixD1.getD j 0)) (by decide) (hG1 _ List.mem_cons_self) (va_eqt (hG1 _ (List.mem_cons_of_mem _ List.mem_cons_self))) (fun j hj => va_eqt (hG1 _ (List.mem_cons_of_mem _ (List.mem_cons_of_mem _ (List.mem_map.mpr ⟨j, List.mem_range.mpr hj, rfl⟩))))) hA
  obtain ⟨t, ht, htT⟩ := va_Tof (tm := ixsD "DigitTens") (ty := .byte) (N := 100) (f := fun j => .int (ixD2.getD j 0)) (by decide) (hG2 _ List.mem_cons_self) (va_eqt (hG2 _ (List.mem_cons_of_mem _ List.mem_cons_self))) (fun j hj => va_eqt (hG2 _ (List.mem_cons_of_mem _ (List.mem_cons_of_mem _ (List.mem_map.mpr ⟨j, List.mem_range.mpr hj, rfl⟩))))) hA
  have hst := fun w hw => hts w (ixs_S w hw)
  have hm := fun w hw => hN w (ixs_M w hw)
  have z1 := va_Zof (hst (.laysStatic "java/lang/String" "COMPACT_STRINGS" "Z") (by simp)) (hst (.initialized "java/lang/String") (by simp)) (va_eqt (hm (.eq (.static "java/lang/String" "COMPACT_STRINGS" "Z") (.int 1)) (by simp))) hA
  have z2 := va_Zof (hst (.laysStatic "java/lang/Integer" "DigitOnes" "[B") (by simp)) (hst (.initialized "java/lang/Integer") (by simp)) ho hA
  have z3 := va_Zof (hst (.laysStatic "java/lang/Integer" "DigitTens" "[B") (by simp)) (hst (.initialized "java/lang/Integer") (by simp)) ht hA
  have z4 := va_Zqof (hst (.laysStatic "jdk/internal/util/Preconditions" "SIOOBE_FORMATTER" "Ljava/util/function/BiFunction;") (by simp)) (hst (.initialized "jdk/internal/util/Preconditions") (by simp)) (hm (.isRef (.static "jdk/internal/util/Preconditions" "SIOOBE_FORMATTER" "Ljava/util/function/BiFunction;")) (by simp)) hA
  have z5 := vx_Zqof (hst (.laysStatic "java/lang/Throwable" "UNASSIGNED_STACK" "[Ljava/lang/StackTraceElement;") (by simp)) (hst (.initialized "java/lang/Throwable") (by simp)) (hm (.isRef (.static "java/lang/Throwable" "UNASSIGNED_STACK" "[Ljava/lang/StackTraceElement;")) (by simp)) hA
  have z6 := vx_Zqof (hst (.laysStatic "java/lang/Throwable" "SUPPRESSED_SENTINEL" "Ljava/util/List;") (by simp)) (hst (.initialized "java/lang/Throwable") (by simp)) (hm (.isRef (.static "java/lang/Throwable" "SUPPRESSED_SENTINEL" "Ljava/util/List;")) (by simp)) hA
  have main : ∀ (fv : Value) (f : Nat), (fv = .null ∨ fv = .ref 97) → va_Z "jdk/internal/util/Preconditions" "SIOOBE_FORMATTER" "Ljava/util/function/BiFunction;" (ix_v (ixs_ad b K V o t f) fv) (fun q => s.heap.size ≤ q) s s.heap → ix_O (ixP fv) (ixs_ad b K V o t f) (fun q => s.heap.size ≤ q) (ixRO L xs) s := by
    intro fv f hfv hz
    have aS : ∀ i, i < 47 → ixs_ad b K V o t f (2 * i + 1) = K i ∧ ixs_ad b K V o t f (2 * i + 2) = V i := by
      intro i hi
      constructor
      · unfold ixs_ad
        rw [if_neg (by omega), if_neg (by omega), if_neg (by omega), if_neg (by omega), if_pos (by omega)]
        congr 1
        omega
      · unfold ixs_ad
        rw [if_neg (by omega), if_neg (by omega), if_neg (by omega), if_neg (by omega), if_neg (by omega)]
        congr 1
        omega
    refine ⟨fun k x hk => ?_, fun c i k tx own hk hown => ?_, fun c i g hg => ?_, ⟨ixs_len L xs, z5, z6⟩, fun x hx => ?_⟩
    · rcases ixs_ro hk with ⟨rfl, rfl⟩ | ⟨i, hi, ⟨rfl, rfl⟩ | ⟨rfl, rfl⟩⟩ | ⟨rfl, rfl⟩ | ⟨rfl, rfl⟩ | ⟨rfl, rfl⟩
      · obtain ⟨scr, e1, e2, e3, e4, e5⟩ := hX
        exact ⟨.int, rfl, scr, e1, e2, e3, Nat.le_of_eq e4.symm, by rw [e4], e5, hA b hbl⟩
      · obtain ⟨-, e1, e2, e3, -⟩ := hS i hi
        refine ⟨("java/lang/String", ixT8, 4), rfl, by rw [(aS i hi).1]; exact e1, fun j v hj => ?_⟩
        rw [(aS i hi).1]
        match j with
        | 0 =>
          cases hj
          show va_OF _ _ _ (.ref (ixs_ad b K V o t f (2 * i + 2))) _ _ _ _
          rw [(aS i hi).2]
          exact e3
        | 1 => cases hj; exact e2
        | j + 2 => simp at hj
      · obtain ⟨-, -, -, -, e4⟩ := hS i hi
        refine ⟨.byte, rfl, ?_⟩
        rw [(aS i hi).2]
        exact e4
      · exact ⟨.byte, rfl, hoT⟩
      · exact ⟨.byte, rfl, htT⟩
      · exact rfl
    · have h1 := List.all_eq_true.mp ixs_kt _ hk
      have hown' : ixON[c]? = some own := hown
      simp only [hown', decide_eq_true_eq] at h1
      obtain ⟨g1', g2', g3⟩ := h1
      have g1 : @HMod.hMod Nat Nat Nat _ k 2 = (1 : Nat) := g1'
      have g2 : @LT.lt Nat _ k 95 := g2'
      clear g1' g2'
      have hi : k / 2 < 47 := by omega
      refine ⟨show k < 98 by omega, ?_⟩
      have hk2 : k = 2 * (k / 2) + 1 := by omega
      rw [hk2, (aS _ hi).1]
      have hr := hts _ (ixs_R (ixsR (k / 2)) (List.mem_map.mpr ⟨k / 2, List.mem_range.mpr hi, rfl⟩))
      have he := (hS _ hi).1
      unfold ixsR at hr
      unfold ixsT at he
      rw [g3] at hr he
      exact vk_R.of hr he
    · have hg' : (c, i, g) ∈ ixST fv := hg
      unfold ixST at hg'
      simp only [List.mem_cons, List.not_mem_nil, or_false, Prod.mk.injEq] at hg'
      rcases hg' with ⟨-, -, rfl⟩ | ⟨-, -, rfl⟩ | ⟨-, -, rfl⟩ | ⟨-, -, rfl⟩ | ⟨-, -, rfl⟩
      · exact ⟨trivial, z1⟩
      · exact ⟨show (95 : Nat) < 98 by decide, z2⟩
      · exact ⟨show (96 : Nat) < 98 by decide, z3⟩
      · exact ⟨trivial, z1⟩
      · refine ⟨?_, hz⟩
        rcases hfv with rfl | rfl
        · trivial
        · show (97 : Nat) < 98
          decide
    · obtain ⟨k, hk⟩ := List.mem_iff_getElem?.mp hx
      rcases ixs_ro hk with ⟨rfl, rfl⟩ | ⟨i, hi, ⟨rfl, rfl⟩ | ⟨rfl, rfl⟩⟩ | ⟨rfl, rfl⟩ | ⟨rfl, rfl⟩ | ⟨rfl, rfl⟩
      · intro h
        cases h
      · intro v hv
        simp only [List.mem_cons, List.not_mem_nil, or_false] at hv
        rcases hv with rfl | rfl
        · show 2 * i + 2 < 98
          omega
        · trivial
      · exact fun _ j => ixs_fit (ixs_fitS i) j
      · exact fun _ j => ixs_fit ixs_fit2.1 j
      · exact fun _ j => ixs_fit ixs_fit2.2 j
      · trivial
  rcases z4 with hz | ⟨f, hz⟩
  · exact ⟨.null, ixs_ad b K V o t 0, Or.inl rfl, rfl, main .null 0 (Or.inl rfl) hz⟩
  · exact ⟨.ref 97, ixs_ad b K V o t f, Or.inr rfl, rfl, main (.ref 97) f (Or.inr rfl) hz⟩
