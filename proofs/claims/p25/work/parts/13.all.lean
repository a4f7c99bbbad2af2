/-! THE CONTRACT of all methods stands. -/
section IXH
variable {P : ix_P} {mi : ix_M} {own : String} {D : va_G} {ad0 : Nat → Nat} {cA : Nat → ClassId} {A : Nat → Prop} {ro : ix_H} {p : Program} {l : Launch} {e : Env} {R : Room} {s : State} {m : MethodId} {args : Array Value} {below : List Frame} {meth : Method} {c : Code} {Q : State → Prop} {n0 s0 pc pc' len nL : Nat} {lv lv' : ix_L} {st st' : List Value} {h h' : ix_H} {ad : Nat → Nat} {H H1 : Heap} {locs locs1 : List Loc} {ls : Array Slot} {Qc : Array Value → State → Outcome → State → Prop} {XC : String → State → State → Prop}
theorem ix_tw_inr {mid : Nat} {ins : Instr} {r : Option Value ⊕ Nat} {h1 : ix_H} (q : ix_tw P mid pc st h ins = some (r, h1)) : ∃ ci, r = .inr ci := by
  unfold ix_tw at q
  split at q
  · split at q
    · cases (Option.ite_none_right_eq_some.mp q).2
      exact ⟨_, rfl⟩
    · cases q
  · cases q
theorem ix_plain (hV : ix_V P = true) (hm : mi ∈ ix_MT P) : plainName mi.1.cls = true := by
  have h1 := ix_mM hV hm
  unfold ix_vM at h1
  split at h1
  · simp only [Bool.and_eq_true] at h1
    exact h1.1.1.2
  · cases h1
theorem ix_CC_of {N : Nat} (hV2 : ix_V2 P = true) (hC : ∀ n, n < N → ix_CC P l n ∧ ix_CX P l n) : ix_CC P l N := by
  intro d mid mi vs h h' v D ad cA ro sz hV hmid hsl hrun
  have hgm := ix_ex_gm _ _ _ _ _ _ _ _ _ hrun
  have main : ∀ (p : Program) (e : Env) (s : State) (m : MethodId) (args : Array Value) (below : List Frame) (meth : Method) (c : Code) (s₁ : State), BodyLoose p l mi.1 (headSpec (ix_wM mi :: ix_WL P) (ix_rm d h h')) mi.2.2.1 mi.2.2.2.1 mi.2.2.2.2.1 e s m args below meth c s₁ → c.maxLocals = mi.2.2.2.1 → c.exceptionTable.toList = tableOf mi.2.2.2.2.2.2.2.2 → va_Pc (vs.map (ix_v ad)) (ix_B P D cA ad ro h (ix_en mi.2.2.2.1 vs) sz) args s →
      W p l e (headSpec (ix_wM mi :: ix_WL P) (ix_rm d h h')).room s m args below meth c s.heap [] 0 0 (MQ below (ix_QQ P D cA ad ro h h' v (va_A (ix_w ad cA (ix_NR P) h) sz)) args s (h'.length - h.length) (ix_sz h' - ix_sz h) (va_A (ix_w ad cA (ix_NR P) h) sz)) (entryFrame m args mi.2.2.2.1) := by
    intro p e s m args below meth c s₁ B hml htab hv
    obtain ⟨rfl, hsz, hP, hK, hD0, hO, htk, hNR, hwf⟩ := hv
    have hts := atoms_spec (ws := ix_wM mi :: ix_WL P) B.pre
    obtain ⟨own, X⟩ := ix_bodyX (A := va_A (ix_w ad cA (ix_NR P) h) sz) hV hmid B.exec B.bytes hml B.returns B.notSynchronized (findClass_of_methodNamed B.named) (name_of_methodNamed B.named B.method).1 (fun w hw => hts w (List.mem_cons_of_mem _ hw)) hK (fun q hq => Or.inr (hsz ▸ hq)) hO
    have X0 := X
    obtain ⟨hx, hb, -, hr, hlocks, -, -, -, -, -, -, -, -⟩ := X
    rw [lg_entry_eq]
    have hI : ix_I P D ad cA (va_A (ix_w ad cA (ix_NR P) h) sz) ro s h.length (ix_sz h) ad h s.heap [] := ⟨hP, ⟨hD0.1, fun k q hk => Or.inl ⟨k, q.2, hk⟩⟩, va_S.rf, fun _ _ => rfl, htk, hNR, Nat.le_refl _, Nat.le_refl _⟩
    refine (ix_path (R := ix_rm d h h') hC X0 hV2 hmid htab ⟨Nat.le_refl _, Nat.le_refl _, Nat.le_refl _, Nat.le_refl _⟩ ?_ N (Nat.le_refl _) 0 (ix_en mi.2.2.2.1 vs) [] h hrun).at hI (ix_LR.entry hsl) hwf rfl (Nat.sub_self _).symm (Nat.sub_self _).symm
    intro pc lv st h2 ins len hd hq
    rcases hq with hq | hq
    · obtain ⟨ci, hci⟩ := ix_tw_inr hq
      cases hci
    · obtain rfl := ix_s1_end hq
      obtain ⟨rfl, hcase⟩ := ix_s1_ret hq
      intro ad2 H locs ls hI2 hL2 hw2
      have hf : ∀ q ∈ locs, va_A (ix_w ad cA (ix_NR P) h) sz q.base := hI2.2.2.1.2.2
      have hq9 : ∀ (w9 : Option Value), (∀ x ∈ w9.toList, ix_wv h'.length x) → w9 = v → ∀ t : State, t.heap = H → s.WarmedH t.vm → ix_QQ P D cA ad ro h h' v (va_A (ix_w ad cA (ix_NR P) h) sz) ((vs.map (ix_v ad)).toArray) s (.returned (w9.map (ix_v ad2))) t := by
        rintro w9 hw9 rfl t ht hWm
        exact ⟨⟨ad2, rfl, by rw [ht]; exact hI2.1, hI2.2.1, hI2.2.2.2.1, ⟨fun x hx => (by cases hx), hw9, hw2.2.2⟩, hI2.2.2.2.2.1⟩, hI2.2.2.1.F ht⟩
      rcases hcase with ⟨rfl, rfl, hret, hr1⟩ | ⟨ty, w9, hret, rfl, hft, hr1, hk⟩
      · obtain rfl := Sum.inl.inj hr1
        exact W.vret hx hb (by rw [hr]; exact hret) (hq9 none (fun x hx => by cases hx) rfl) hf hd hlocks
      · obtain rfl := Sum.inl.inj hr1
        have hq8 := hq9 (some w9) (fun x hx => by rw [Option.mem_toList] at hx; cases hx; exact hw2.top) rfl
        obtain ⟨hnar, -⟩ := ix_ft_nar (ad := ad2) hft
        rcases hk with ⟨rfl, hk⟩ | ⟨rfl, hk⟩ | ⟨rfl, hk⟩ | ⟨rfl, hk⟩
        · have hi9 : ∃ z, w9 = .int z := by
            unfold ix_ft at hft
            split at hft <;> first | exact ⟨_, rfl⟩ | (simp [ix_rk] at hk; done) | cases hft
          obtain ⟨z, rfl⟩ := hi9
          exact W.zret hx hb (by rw [hr]; exact hret) hnar hq8 hf hd hlocks
        · have hi9 : ty = .long ∧ ∃ z, w9 = .long z := by
            unfold ix_ft at hft
            split at hft <;> first | exact ⟨rfl, _, rfl⟩ | (simp [ix_rk] at hk; done) | cases hft
          obtain ⟨rfl, z, rfl⟩ := hi9
          exact W.lret hx hb (by rw [hr]; exact hret) hq8 hf hd hlocks
        · have hi9 : ty = .double ∧ ∃ z, w9 = .double z := by
            unfold ix_ft at hft
            split at hft <;> first | exact ⟨rfl, _, rfl⟩ | (simp [ix_rk] at hk; done) | cases hft
          obtain ⟨rfl, z, rfl⟩ := hi9
          exact W.dret hx hb (by rw [hr]; exact hret) hq8 hf hd hlocks
        · have hi9 : ((∃ n, ty = .object n) ∨ ∃ t, ty = .array t) ∧ (w9 = .null ∨ ∃ a, w9 = .ref a) := by
            unfold ix_ft at hft
            split at hft <;> first | exact ⟨Or.inl ⟨_, rfl⟩, Or.inr ⟨_, rfl⟩⟩ | exact ⟨Or.inl ⟨_, rfl⟩, Or.inl rfl⟩ | exact ⟨Or.inr ⟨_, rfl⟩, Or.inr ⟨_, rfl⟩⟩ | exact ⟨Or.inr ⟨_, rfl⟩, Or.inl rfl⟩ | (simp [ix_rk] at hk; done) | cases hft
          obtain ⟨hty, hwv⟩ := hi9
          exact W.aret hx hb (by rw [hr]; exact hret) hty (hwv.elim (fun g => Or.inl (by rw [g]; rfl)) (fun ⟨a, g⟩ => Or.inr ⟨ad2 a, by rw [g]; rfl⟩)) hq8 hf hd hlocks
  by_cases hh : mi.2.2.2.2.2.2.2.2 = []
  · have hwM : ix_wM mi = .code mi.1 mi.2.2.1 mi.2.2.2.1 mi.2.2.2.2.1 := by
      unfold ix_wM
      rw [if_pos hh]
    refine Met.ofW (cc := mi.2.2.1) (maxL := mi.2.2.2.1) (ret := mi.2.2.2.2.1) (ws' := ix_WL P) (ix_plain hV (List.mem_of_getElem? hmid)) (by rw [hwM]) (fun p e s m args below meth c s₁ B hml hv => main p e s m args below meth c s₁ B hml ?_ hv)
    have h9 := atoms_spec (ws := ix_wM mi :: ix_WL P) B.pre _ List.mem_cons_self
    rw [hwM] at h9
    rw [hh]
    exact vx_table (x := mi.1) B (maxL' := mi.2.2.2.1) (ret' := mi.2.2.2.2.1) (bytes := mi.2.2.1) (by unfold Cond.before Cond.holds at h9 ⊢; rw [← Cond.code_iff_codeWith_nil]; exact h9)
  · have hwM : ix_wM mi = .codeWith mi.1 mi.2.2.1 mi.2.2.2.1 mi.2.2.2.2.1 mi.2.2.2.2.2.2.2.2 := by
      unfold ix_wM
      rw [if_neg hh]
    refine va_MetW (cc := mi.2.2.1) (maxL := mi.2.2.2.1) (ret := mi.2.2.2.2.1) (hh := mi.2.2.2.2.2.2.2.2) (ws' := ix_WL P) (ix_plain hV (List.mem_of_getElem? hmid)) (by rw [hwM]) (fun p e s m args below meth c s₁ B hml hv => main p e s m args below meth c s₁ B hml ?_ hv)
    have h9 := atoms_spec (ws := ix_wM mi :: ix_WL P) B.pre _ List.mem_cons_self
    rw [hwM] at h9
    exact vx_table (x := mi.1) B h9
theorem ix_CX_of {N : Nat} (hl : l.stackTraces = false) (hV2 : ix_V2 P = true) (hC : ∀ n, n < N → ix_CC P l n ∧ ix_CX P l n) : ix_CX P l N := by
  intro d mid mi vs h h' ci row D ad cA ro sz hV hmid hh hsl hrun hrow
  have hwM : ix_wM mi = .code mi.1 mi.2.2.1 mi.2.2.2.1 mi.2.2.2.2.1 := by
    unfold ix_wM
    rw [if_pos hh]
  refine vx_ofW (cc := mi.2.2.1) (maxL := mi.2.2.2.1) (ret := mi.2.2.2.2.1) (ws' := ix_WL P) (ix_plain hV (List.mem_of_getElem? hmid)) (by rw [hwM]) (fun p e s m args below meth c s₁ B hml htab hv => ?_)
  obtain ⟨rfl, hsz, hP, hK, hD0, hO, htk, hNR, hwf⟩ := hv
  have hts := atoms_spec (ws := ix_wM mi :: ix_WL P) B.pre
  obtain ⟨own, X⟩ := ix_bodyX (A := va_A (ix_w ad cA (ix_NR P) h) sz) hV hmid B.exec B.bytes hml B.returns B.notSynchronized (findClass_of_methodNamed B.named) (name_of_methodNamed B.named B.method).1 (fun w hw => hts w (List.mem_cons_of_mem _ hw)) hK (fun q hq => Or.inr (hsz ▸ hq)) hO
  rw [lg_entry_eq]
  have hI : ix_I P D ad cA (va_A (ix_w ad cA (ix_NR P) h) sz) ro s h.length (ix_sz h) ad h s.heap [] := ⟨hP, ⟨hD0.1, fun k q hk => Or.inl ⟨k, q.2, hk⟩⟩, va_S.rf, fun _ _ => rfl, htk, hNR, Nat.le_refl _, Nat.le_refl _⟩
  have htab2 : c.exceptionTable.toList = tableOf mi.2.2.2.2.2.2.2.2 := by
    rw [hh]
    exact List.eq_nil_iff_forall_not_mem.mpr (fun x hx => htab x hx)
  refine (ix_path (R := ix_rm d h h') hC X hV2 hmid htab2 ⟨Nat.le_refl _, Nat.le_refl _, Nat.le_refl _, Nat.le_refl _⟩ ?_ N (Nat.le_refl _) 0 (ix_en mi.2.2.2.1 vs) [] h hrun).at hI (ix_LR.entry hsl) hwf rfl (Nat.sub_self _).symm (Nat.sub_self _).symm
  intro pc lv st h2 ins len hd hq
  rcases hq with hq | hq
  · refine ix_throw hl X hV2 hmid htab hq hrow ⟨Nat.le_refl _, Nat.le_refl _, Nat.le_add_left _ _, by show 240 ≤ 60 * (d + 4); omega⟩ rfl rfl (fun q h9 => h9) (fun ad2 H1 locs1 t hI2 hwc ht hvm => ?_)
    exact ⟨rfl, ⟨ad2, by rw [ht]; exact hI2.1, hI2.2.1, hI2.2.2.2.1, hwc, hI2.2.2.2.2.1⟩, hI2.2.2.1.F ht⟩
  · obtain ⟨-, hcase⟩ := ix_s1_ret hq
    rcases hcase with ⟨-, -, -, hr1⟩ | ⟨ty, w9, -, -, -, hr1, -⟩ <;> cases hr1
theorem ix_every (hl : l.stackTraces = false) (hV2 : ix_V2 P = true) : ∀ N n : Nat, n < N → ix_CC P l n ∧ ix_CX P l n
  | 0, n, h => absurd h (Nat.not_lt_zero n)
  | N + 1, n, h => by
    have ih := ix_every hl hV2 N
    rcases Nat.lt_or_ge n N with g | g
    · exact ih n g
    · have e : n = N := by omega
      subst e
      exact ⟨ix_CC_of hV2 ih, ix_CX_of hl hV2 ih⟩

end IXH
