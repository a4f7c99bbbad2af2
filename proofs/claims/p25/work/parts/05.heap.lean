/-! A STEP WITH CELLS is the JVM's. -/
section IXH
variable {P : ix_P} {mi : ix_M} {own : String} {D : va_G} {ad0 : Nat → Nat} {cA : Nat → ClassId} {A : Nat → Prop} {ro : ix_H} {p : Program} {l : Launch} {e : Env} {R : Room} {s : State} {m : MethodId} {args : Array Value} {below : List Frame} {meth : Method} {c : Code} {Q : State → Prop} {n0 s0 pc pc' len nL : Nat} {lv lv' : ix_L} {st st' : List Value} {h h' : ix_H} {ad : Nat → Nat} {H H1 : Heap} {locs locs1 : List Loc} {ls : Array Slot}
theorem ix_W.at {cells slots : Nat} {st9 : List Value} (k : ix_W P D ad0 cA A ro p l e R s m args below meth c Q n0 s0 nL pc lv st h) (hI : ix_I P D ad0 cA A ro s n0 s0 ad h H locs) (hL : ix_LR ad nL lv ls) (hw : ix_wf h lv st) (hst : st.map (ix_v ad) = st9) (hc : cells = h.length - n0) (hs : slots = ix_sz h - s0) : W p l e R s m args below meth c H locs cells slots Q (F0 m pc ls st9) := by
  subst hst hc hs
  exact k ad H locs ls hI hL hw
theorem ix_szs {o : Nat} {x y : ix_C} (hy : h[o]? = some y) (hsz : ix_cs x = ix_cs y) : ix_sz h - s0 = ix_sz (h.set o x) - s0 := by rw [ix_sz_set h o y x hy hsz]
theorem ix_wf.set {o : Nat} {x : ix_C} (w : ix_wf h lv st) (hx : ix_wc h.length x) : ix_wf (h.set o x) lv st := by
  unfold ix_wf
  rw [List.length_set]
  exact ⟨w.1, w.2.1, fun y hy => (List.mem_or_eq_of_mem_set hy).elim (w.2.2 y) (fun q => q ▸ hx)⟩
theorem ix_wf.app {h1 : ix_H} (w : ix_wf h lv st) (hx : ∀ x ∈ h1, ix_wc (h.length + h1.length) x) : ix_wf (h ++ h1) lv st := by
  unfold ix_wf
  rw [List.length_append]
  exact ⟨fun v hv => (w.1 v hv).mono (Nat.le_add_right _ _), fun v hv => (w.2.1 v hv).mono (Nat.le_add_right _ _), fun y hy => (List.mem_append.mp hy).elim (fun q => (w.2.2 y q).mono (Nat.le_add_right _ _)) (hx y)⟩
theorem ix_I.set {o : Nat} {x y : ix_C} {E : va_E} (hI : ix_I P D ad0 cA A ro s n0 s0 ad h H locs) (ho : ix_NR P ≤ o) (hy : h[o]? = some y) (hsz : ix_cs x = ix_cs y) (hc : ix_c ad cA x = E) (hP1 : va_P D (ix_CL P) ((ix_w ad cA (ix_NR P) h).set (o - ix_NR P) (ad o, E)) H1) (hD1 : va_D A ((ix_w ad cA (ix_NR P) h).set (o - ix_NR P) (ad o, E))) (hS1 : va_S A s.heap H1 locs1) : ix_I P D ad0 cA A ro s n0 s0 ad (h.set o x) H1 locs1 := by
  subst hc
  rw [← ix_w_set h o x ho] at hP1 hD1
  obtain ⟨-, -, -, h4, h5, h6, h7, h8⟩ := hI
  refine ⟨hP1, hD1, hS1, h4, ?_, h6, by rw [List.length_set]; exact h7, by rw [ix_sz_set h o y x hy hsz]; exact h8⟩
  rw [List.take_set_of_le ho]
  exact h5
theorem ix_I.push {q : Nat} {x : ix_C} {E : va_E} (hI : ix_I P D ad0 cA A ro s n0 s0 ad h H locs) (hw : ix_wf h lv st) (hc : ix_c (ix_up ad h.length q) cA x = E) (hP1 : va_P D (ix_CL P) (ix_w ad cA (ix_NR P) h ++ [(q, E)]) H1) (hD1 : va_D A (ix_w ad cA (ix_NR P) h ++ [(q, E)])) (hS1 : va_S A s.heap H1 locs1) : ix_I P D ad0 cA A ro s n0 s0 (ix_up ad h.length q) (h ++ [x]) H1 locs1 := by
  subst hc
  obtain ⟨-, -, -, h4, h5, h6, h7, h8⟩ := hI
  have hn : ix_NR P ≤ h.length := Nat.le_trans h6 h7
  have e1 : ix_w (ix_up ad h.length q) cA (ix_NR P) (h ++ [x]) = ix_w ad cA (ix_NR P) h ++ [(q, ix_c (ix_up ad h.length q) cA x)] := by
    rw [ix_w_push h x hn, ix_up_eq, ix_w_ad (fun k hk => ix_up_lt hk) hw.2.2]
  rw [← e1] at hP1 hD1
  refine ⟨hP1, hD1, hS1, fun k hk => (ix_up_lt (Nat.lt_of_lt_of_le hk h7)).trans (h4 k hk), ?_, h6, by rw [List.length_append]; omega, by rw [ix_sz_push]; omega⟩
  rw [List.take_append_of_le_length hn]
  exact h5
theorem ix_I.old {o : Nat} {x : ix_C} (hI : ix_I P D ad0 cA A ro s n0 s0 ad h H locs) (ho : o < ix_NR P) (hx : h[o]? = some x) : ro[o]? = some x ∧ ad o = ad0 o := by
  obtain ⟨-, -, -, h4, h5, h6, h7, h8⟩ := hI
  refine ⟨?_, h4 o (Nat.lt_of_lt_of_le ho h6)⟩
  rw [← h5, List.getElem?_take_of_lt ho]
  exact hx
theorem ix_LR.up {q : Nat} (hL : ix_LR ad nL lv ls) (hw : ix_wf h lv st) : ix_LR (ix_up ad h.length q) nL lv ls := hL.ad (fun k hk => ix_up_lt hk) hw.1
theorem ix_vs_up {q : Nat} (hw : ix_wf h lv st) : st.map (ix_v (ix_up ad h.length q)) = st.map (ix_v ad) := ix_vs_ad (fun k hk => ix_up_lt hk) hw.2.1
theorem ix_ty0 (hV : ix_V P = true) : (ix_TY P)[0]? = some .int ∧ (ix_TY P)[1]? = some .long ∧ (ix_TY P)[2]? = some .byte ∧ (ix_TY P)[3]? = some .boolean ∧ (ix_TY P)[5]? = some (.array .int) := by
  simp only [ix_V, Bool.and_eq_true, decide_eq_true_eq] at hV
  rw [hV.2]
  exact ⟨rfl, rfl, rfl, rfl, rfl⟩

theorem ix_comp (hts : ∀ w ∈ ix_WL P, w.before args s = true) (hV : ix_V P = true) (h5 : va_RA s (cA 5) (.array .int)) (h0 : va_RA s (cA 0) .int) : ∃ kA : Class, s.vm.classes[cA 5]? = some kA ∧ kA.kind = .array (cA 0) (.array .int) := by
  have hTY : ix_TY P = [.int, .long, .byte, .boolean, .byte, .array .int] := by
    simp only [ix_V, Bool.and_eq_true, decide_eq_true_eq] at hV
    exact hV.2
  have hm : Cond.arrayOver (.array .int) ∈ ix_WL P := by
    unfold ix_WL
    rw [hTY]
    simp only [List.mem_append]
    exact Or.inr (Or.inr (Or.inr (Or.inr (Or.inr (Or.inr (Or.inl (by decide)))))))
  obtain ⟨comp, cc, k, e1, e2, e3, e4, e5⟩ := arrayOverA_spec (hts _ hm)
  have h5' : s.vm.findClass ("[" ++ (FieldType.array .int).toString) = some (cA 5) := h5
  have h0' : s.vm.findClass ("[" ++ FieldType.int.toString) = some (cA 0) := h0
  obtain rfl : cA 5 = cc := Option.some.inj (h5'.symm.trans e5)
  obtain rfl : cA 0 = comp := Option.some.inj (h0'.symm.trans e1)
  exact ⟨k, e3, e4⟩

theorem ix_p_iaload  (X : ix_X P mi own D ad0 cA A ro p s m args meth c) (hd : decode mi.2.2.1 pc = .ok (.iaload, len)) (q : ix_s1 P mi pc lv st h len (.iaload) = some (.inl (pc', lv', st', h'))) (hR : h'.length - n0 ≤ R.cells ∧ ix_sz h' - s0 ≤ R.slots ∧ 1 ≤ R.frames ∧ 60 ≤ R.locals) (k : ix_W P D ad0 cA A ro p l e R s m args below meth c Q n0 s0 mi.2.2.2.1 pc' lv' st' h') : ix_W P D ad0 cA A ro p l e R s m args below meth c Q n0 s0 mi.2.2.2.1 pc lv st h := by
  obtain ⟨hx, hb, hml, hr, hlocks, hon, hown, hini, hK, hts, hV, hA, hO⟩ := X
  obtain ⟨ht0, ht1, ht2, ht3, ht5⟩ := ix_ty0 hV
  simp only [ix_s1] at q
  split at q
  · next hlen =>
    subst hlen
    obtain ⟨i, o, r, rfl, q2⟩ := ix_ir_eq q
    obtain ⟨t, n, a, ho, q3⟩ := ix_ai_eq q2
    split at q3
    · next hc =>
      obtain ⟨rfl, rfl, rfl, rfl⟩ := ix_go_eq q3
      intro ad H locs ls hI hL hw
      have hin := ix_in_eq hc.2
      by_cases hn : ix_NR P ≤ o
      · have he := ix_w_get (ad := ad) (cA := cA) ho hn
        obtain rfl := hc.1
        exact va_iald hx hb hK hI.1 (o - ix_NR P) 0 he (ix_ty_get ht0) hin hd (k ad H locs ls hI hL (hw.pop.pop.push trivial))
      · have hold := hI.old (Nat.lt_of_not_le hn) ho
        obtain rfl := hc.1
        obtain ⟨ty, g1, g2⟩ := hO.1 _ _ hold.1
        rw [ht0] at g1
        cases g1
        rw [← hold.2] at g2
        exact va_ti hx hb g2 hI.2.2.1 hin rfl hd (k ad H locs ls hI hL (hw.pop.pop.push trivial))
    · cases q3
  · cases q
theorem ix_p_baload  (X : ix_X P mi own D ad0 cA A ro p s m args meth c) (hd : decode mi.2.2.1 pc = .ok (.baload, len)) (q : ix_s1 P mi pc lv st h len (.baload) = some (.inl (pc', lv', st', h'))) (hR : h'.length - n0 ≤ R.cells ∧ ix_sz h' - s0 ≤ R.slots ∧ 1 ≤ R.frames ∧ 60 ≤ R.locals) (k : ix_W P D ad0 cA A ro p l e R s m args below meth c Q n0 s0 mi.2.2.2.1 pc' lv' st' h') : ix_W P D ad0 cA A ro p l e R s m args below meth c Q n0 s0 mi.2.2.2.1 pc lv st h := by
  obtain ⟨hx, hb, hml, hr, hlocks, hon, hown, hini, hK, hts, hV, hA, hO⟩ := X
  obtain ⟨ht0, ht1, ht2, ht3, ht5⟩ := ix_ty0 hV
  simp only [ix_s1] at q
  split at q
  · next hlen =>
    subst hlen
    obtain ⟨i, o, r, rfl, q2⟩ := ix_ir_eq q
    obtain ⟨t, n, a, ho, q3⟩ := ix_ai_eq q2
    split at q3
    · next hc =>
      obtain ⟨rfl, rfl, rfl, rfl⟩ := ix_go_eq q3
      intro ad H locs ls hI hL hw
      have hin := ix_in_eq hc.2
      by_cases hn : ix_NR P ≤ o
      · have he := ix_w_get (ad := ad) (cA := cA) ho hn
        rcases hc.1 with rfl | rfl
        · exact va_bald hx hb hK hI.1 (o - ix_NR P) 2 he (ix_ty_get ht2) hin hd (k ad H locs ls hI hL (hw.pop.pop.push trivial))
        · exact va_zald hx hb hK hI.1 (o - ix_NR P) 3 he (ix_ty_get ht3) hin hd (k ad H locs ls hI hL (hw.pop.pop.push trivial))
      · have hold := hI.old (Nat.lt_of_not_le hn) ho
        obtain ⟨ty, g1, g2⟩ := hO.1 _ _ hold.1
        rw [← hold.2] at g2
        rcases hc.1 with rfl | rfl
        · rw [ht2] at g1
          cases g1
          exact va_tb hx hb g2 hI.2.2.1 hin rfl hd (k ad H locs ls hI hL (hw.pop.pop.push trivial))
        · rw [ht3] at g1
          cases g1
          exact va_tz hx hb g2 hI.2.2.1 hin rfl hd (k ad H locs ls hI hL (hw.pop.pop.push trivial))
    · cases q3
  · cases q
theorem ix_p_laload  (X : ix_X P mi own D ad0 cA A ro p s m args meth c) (hd : decode mi.2.2.1 pc = .ok (.laload, len)) (q : ix_s1 P mi pc lv st h len (.laload) = some (.inl (pc', lv', st', h'))) (hR : h'.length - n0 ≤ R.cells ∧ ix_sz h' - s0 ≤ R.slots ∧ 1 ≤ R.frames ∧ 60 ≤ R.locals) (k : ix_W P D ad0 cA A ro p l e R s m args below meth c Q n0 s0 mi.2.2.2.1 pc' lv' st' h') : ix_W P D ad0 cA A ro p l e R s m args below meth c Q n0 s0 mi.2.2.2.1 pc lv st h := by
  obtain ⟨hx, hb, hml, hr, hlocks, hon, hown, hini, hK, hts, hV, hA, hO⟩ := X
  obtain ⟨ht0, ht1, ht2, ht3, ht5⟩ := ix_ty0 hV
  simp only [ix_s1] at q
  split at q
  · next hlen =>
    subst hlen
    obtain ⟨i, o, r, rfl, q2⟩ := ix_ir_eq q
    obtain ⟨t, n, a, ho, q3⟩ := ix_all_eq q2
    split at q3
    · next hc =>
      obtain ⟨rfl, rfl, rfl, rfl⟩ := ix_go_eq q3
      intro ad H locs ls hI hL hw
      have hin := ix_in_eq hc.2
      by_cases hn : ix_NR P ≤ o
      · have he := ix_w_get (ad := ad) (cA := cA) ho hn
        obtain rfl := hc.1
        exact va_lald hx hb hK hI.1 (o - ix_NR P) 1 he (ix_ty_get ht1) hin hd (k ad H locs ls hI hL (hw.pop.pop.push trivial))
      · have hold := hI.old (Nat.lt_of_not_le hn) ho
        exact (hO.1 _ _ hold.1).elim
    · cases q3
  · cases q
theorem ix_p_aaload  (X : ix_X P mi own D ad0 cA A ro p s m args meth c) (hd : decode mi.2.2.1 pc = .ok (.aaload, len)) (q : ix_s1 P mi pc lv st h len (.aaload) = some (.inl (pc', lv', st', h'))) (hR : h'.length - n0 ≤ R.cells ∧ ix_sz h' - s0 ≤ R.slots ∧ 1 ≤ R.frames ∧ 60 ≤ R.locals) (k : ix_W P D ad0 cA A ro p l e R s m args below meth c Q n0 s0 mi.2.2.2.1 pc' lv' st' h') : ix_W P D ad0 cA A ro p l e R s m args below meth c Q n0 s0 mi.2.2.2.1 pc lv st h := by
  obtain ⟨hx, hb, hml, hr, hlocks, hon, hown, hini, hK, hts, hV, hA, hO⟩ := X
  obtain ⟨ht0, ht1, ht2, ht3, ht5⟩ := ix_ty0 hV
  simp only [ix_s1] at q
  split at q
  · next hlen =>
    subst hlen
    obtain ⟨i, o, r, rfl, q2⟩ := ix_ir_eq q
    obtain ⟨t, n, a, ho, q3⟩ := ix_aq_eq q2
    split at q3
    · next hc =>
      obtain ⟨rfl, rfl, rfl, rfl⟩ := ix_go_eq q3
      obtain ⟨hn, rfl, hc3⟩ := hc
      intro ad H locs ls hI hL hw
      have hin := ix_in_eq hc3
      have he := ix_w_get (ad := ad) (cA := cA) ho hn
      have hlt : i.toNatClampNeg < n := Nat.not_le.mp fun q => hin (Or.inr q)
      have hg : ix_v ad (ix_rf (a i.toNatClampNeg)) = va_rf ((a i.toNatClampNeg).map ad) := by
        cases a i.toNatClampNeg <;> rfl
      have hwv : ix_wv h'.length (ix_rf (a i.toNatClampNeg)) := by
        cases hz : a i.toNatClampNeg with
        | none => trivial
        | some z => exact hw.2.2 _ (List.mem_of_getElem? ho) _ _ hz
      refine W.aald (v := va_rf ((a i.toNatClampNeg).map ad)) (ty := .array .int) hx hb (hI.1 (o - ix_NR P) _ he) ((hK.2 5 _ (ix_ty_get ht5)).1 n (fun j => va_rf ((a j).map ad))) rfl (fun q => by cases q) (by show ¬ (i < 0 ∨ (arrV _ _ _).slots.size ≤ _); rw [arrV_size]; exact hin) (by show (arrV _ _ _).slots[_]? = _; rw [arrV_read _ _ hlt]) rfl rfl hd ?_
      exact k.at hI hL (hw.pop.pop.push hwv) (by rw [List.map_cons, hg]) rfl rfl
    · cases q3
  · cases q
theorem ix_p_arraylength  (X : ix_X P mi own D ad0 cA A ro p s m args meth c) (hd : decode mi.2.2.1 pc = .ok (.arraylength, len)) (q : ix_s1 P mi pc lv st h len (.arraylength) = some (.inl (pc', lv', st', h'))) (hR : h'.length - n0 ≤ R.cells ∧ ix_sz h' - s0 ≤ R.slots ∧ 1 ≤ R.frames ∧ 60 ≤ R.locals) (k : ix_W P D ad0 cA A ro p l e R s m args below meth c Q n0 s0 mi.2.2.2.1 pc' lv' st' h') : ix_W P D ad0 cA A ro p l e R s m args below meth c Q n0 s0 mi.2.2.2.1 pc lv st h := by
  obtain ⟨hx, hb, hml, hr, hlocks, hon, hown, hini, hK, hts, hV, hA, hO⟩ := X
  obtain ⟨ht0, ht1, ht2, ht3, ht5⟩ := ix_ty0 hV
  simp only [ix_s1] at q
  split at q
  · next hlen =>
    subst hlen
    obtain ⟨o, r, rfl, q2⟩ := ix_r_eq q
    obtain ⟨t, n, a, ho, q3⟩ := ix_ar_eq q2
    split at q3
    · next ty hty =>
      obtain ⟨rfl, rfl, rfl, rfl⟩ := ix_go_eq q3
      intro ad H locs ls hI hL hw
      by_cases hn : ix_NR P ≤ o
      · have he := ix_w_get (ad := ad) (cA := cA) ho hn
        exact va_alen hx hb hK hI.1 (o - ix_NR P) t he (ix_ty_get hty) rfl hd (k ad H locs ls hI hL (hw.pop.push trivial))
      · have hold := hI.old (Nat.lt_of_not_le hn) ho
        have g0 := hO.1 _ _ hold.1
        obtain f | f | f | f | f := a
        · obtain ⟨ty', g1, g2⟩ := g0
          rw [← hold.2] at g2
          exact va_tlen hx hb g2 hI.2.2.1 rfl hd (k ad H locs ls hI hL (hw.pop.push trivial))
        · exact g0.elim
        · have g0' : (ix_TY P)[t]? = none := g0
          rw [hty] at g0'
          cases g0'
        · exact g0.elim
        · exact g0.elim
    · cases q3
  · cases q
theorem ix_p_iastore  (X : ix_X P mi own D ad0 cA A ro p s m args meth c) (hd : decode mi.2.2.1 pc = .ok (.iastore, len)) (q : ix_s1 P mi pc lv st h len (.iastore) = some (.inl (pc', lv', st', h'))) (hR : h'.length - n0 ≤ R.cells ∧ ix_sz h' - s0 ≤ R.slots ∧ 1 ≤ R.frames ∧ 60 ≤ R.locals) (k : ix_W P D ad0 cA A ro p l e R s m args below meth c Q n0 s0 mi.2.2.2.1 pc' lv' st' h') : ix_W P D ad0 cA A ro p l e R s m args below meth c Q n0 s0 mi.2.2.2.1 pc lv st h := by
  obtain ⟨hx, hb, hml, hr, hlocks, hon, hown, hini, hK, hts, hV, hA, hO⟩ := X
  obtain ⟨ht0, ht1, ht2, ht3, ht5⟩ := ix_ty0 hV
  simp only [ix_s1] at q
  split at q
  · next hlen =>
    subst hlen
    obtain ⟨v, i, o, r, rfl, q2⟩ := ix_iir_eq q
    obtain ⟨t, n, a, ho, q3⟩ := ix_ai_eq q2
    split at q3
    · next hc =>
      obtain ⟨rfl, rfl, rfl, rfl⟩ := ix_go_eq q3
      intro ad H locs ls hI hL hw
      obtain ⟨hn, rfl, hin⟩ := hc
      refine va_iast hx hb hK hI.1 hI.2.1 hI.2.2.1 (o - ix_NR P) 0 (ix_w_get (ad := ad) (cA := cA) ho hn) (ix_ty_get ht0) (ix_in_eq hin) hd (fun H1 locs1 hP1 hD1 hS1 => ?_)
      exact k.at (hI.set hn ho rfl rfl hP1 hD1 hS1) hL (hw.pop.pop.pop.set (fun q => by cases q)) rfl (by rw [List.length_set]) (ix_szs ho rfl)
    · cases q3
  · cases q
theorem ix_p_lastore  (X : ix_X P mi own D ad0 cA A ro p s m args meth c) (hd : decode mi.2.2.1 pc = .ok (.lastore, len)) (q : ix_s1 P mi pc lv st h len (.lastore) = some (.inl (pc', lv', st', h'))) (hR : h'.length - n0 ≤ R.cells ∧ ix_sz h' - s0 ≤ R.slots ∧ 1 ≤ R.frames ∧ 60 ≤ R.locals) (k : ix_W P D ad0 cA A ro p l e R s m args below meth c Q n0 s0 mi.2.2.2.1 pc' lv' st' h') : ix_W P D ad0 cA A ro p l e R s m args below meth c Q n0 s0 mi.2.2.2.1 pc lv st h := by
  obtain ⟨hx, hb, hml, hr, hlocks, hon, hown, hini, hK, hts, hV, hA, hO⟩ := X
  obtain ⟨ht0, ht1, ht2, ht3, ht5⟩ := ix_ty0 hV
  simp only [ix_s1] at q
  split at q
  · next hlen =>
    subst hlen
    obtain ⟨v, i, o, r, rfl, q2⟩ := ix_lir_eq q
    obtain ⟨t, n, a, ho, q3⟩ := ix_all_eq q2
    split at q3
    · next hc =>
      obtain ⟨rfl, rfl, rfl, rfl⟩ := ix_go_eq q3
      intro ad H locs ls hI hL hw
      obtain ⟨hn, rfl, hin⟩ := hc
      refine va_last hx hb hK hI.1 hI.2.1 hI.2.2.1 (o - ix_NR P) 1 (ix_w_get (ad := ad) (cA := cA) ho hn) (ix_ty_get ht1) (ix_in_eq hin) hd (fun H1 locs1 hP1 hD1 hS1 => ?_)
      exact k.at (hI.set hn ho rfl rfl hP1 hD1 hS1) hL (hw.pop.pop.pop.set trivial) rfl (by rw [List.length_set]) (ix_szs ho rfl)
    · cases q3
  · cases q
theorem ix_byte_fit {v : Int32} (h : ix_ft .byte (.int v) = true) : fits .byte (.int v) = true := by
  have h1 : v.toInt8.toInt32 = v := of_decide_eq_true h
  have h2 := pk_fb v
  rw [h1] at h2
  exact h2
theorem ix_bool_nar {v : Int32} (h : ix_ft .boolean (.int v) = true) : v = 0 ∨ v = 1 := by
  simpa [ix_ft] using h

theorem ix_p_bastore  (X : ix_X P mi own D ad0 cA A ro p s m args meth c) (hd : decode mi.2.2.1 pc = .ok (.bastore, len)) (q : ix_s1 P mi pc lv st h len (.bastore) = some (.inl (pc', lv', st', h'))) (hR : h'.length - n0 ≤ R.cells ∧ ix_sz h' - s0 ≤ R.slots ∧ 1 ≤ R.frames ∧ 60 ≤ R.locals) (k : ix_W P D ad0 cA A ro p l e R s m args below meth c Q n0 s0 mi.2.2.2.1 pc' lv' st' h') : ix_W P D ad0 cA A ro p l e R s m args below meth c Q n0 s0 mi.2.2.2.1 pc lv st h := by
  obtain ⟨hx, hb, hml, hr, hlocks, hon, hown, hini, hK, hts, hV, hA, hO⟩ := X
  obtain ⟨ht0, ht1, ht2, ht3, ht5⟩ := ix_ty0 hV
  simp only [ix_s1] at q
  split at q
  · next hlen =>
    subst hlen
    obtain ⟨v, i, o, r, rfl, q2⟩ := ix_iir_eq q
    obtain ⟨t, n, a, ho, q3⟩ := ix_ai_eq q2
    split at q3
    · next hc =>
      obtain ⟨rfl, rfl, rfl, rfl⟩ := ix_go_eq q3
      intro ad H locs ls hI hL hw
      obtain ⟨hn, hty, hin⟩ := hc
      rcases hty with ⟨rfl, hf⟩ | ⟨rfl, hf⟩
      · have hv : vp_nar .byte v = v := by
          rw [vp_nar_byte]
          exact of_decide_eq_true hf
        refine va_bast hx hb hK hI.1 hI.2.1 hI.2.2.1 (o - ix_NR P) 2 (ix_w_get (ad := ad) (cA := cA) ho hn) (ix_ty_get ht2) (ix_in_eq hin) hd (fun H1 locs1 hP1 hD1 hS1 => ?_)
        rw [hv] at hP1 hD1
        refine k.at (hI.set hn ho rfl rfl hP1 hD1 hS1) hL (hw.pop.pop.pop.set (fun _ j => ?_)) rfl (by rw [List.length_set]) (ix_szs ho rfl)
        by_cases hj : j = i.toNatClampNeg
        · subst hj
          rw [pk_us]
          exact ix_byte_fit hf
        · rw [pk_un hj]
          exact hw.2.2 _ (List.mem_of_getElem? ho) rfl j
      · have hv : vp_nar .boolean v = v := by
          rcases ix_bool_nar hf with rfl | rfl <;> decide
        refine va_zast hx hb hK hI.1 hI.2.1 hI.2.2.1 (o - ix_NR P) 3 (ix_w_get (ad := ad) (cA := cA) ho hn) (ix_ty_get ht3) (ix_in_eq hin) hd (fun H1 locs1 hP1 hD1 hS1 => ?_)
        rw [hv] at hP1 hD1
        exact k.at (hI.set hn ho rfl rfl hP1 hD1 hS1) hL (hw.pop.pop.pop.set (fun q => by cases q)) rfl (by rw [List.length_set]) (ix_szs ho rfl)
    · cases q3
  · cases q
theorem ix_p_aastore  (X : ix_X P mi own D ad0 cA A ro p s m args meth c) (hd : decode mi.2.2.1 pc = .ok (.aastore, len)) (q : ix_s1 P mi pc lv st h len (.aastore) = some (.inl (pc', lv', st', h'))) (hR : h'.length - n0 ≤ R.cells ∧ ix_sz h' - s0 ≤ R.slots ∧ 1 ≤ R.frames ∧ 60 ≤ R.locals) (k : ix_W P D ad0 cA A ro p l e R s m args below meth c Q n0 s0 mi.2.2.2.1 pc' lv' st' h') : ix_W P D ad0 cA A ro p l e R s m args below meth c Q n0 s0 mi.2.2.2.1 pc lv st h := by
  obtain ⟨hx, hb, hml, hr, hlocks, hon, hown, hini, hK, hts, hV, hA, hO⟩ := X
  obtain ⟨ht0, ht1, ht2, ht3, ht5⟩ := ix_ty0 hV
  simp only [ix_s1] at q
  split at q
  · next hlen =>
    subst hlen
    obtain ⟨v, i, o, r, rfl, q2⟩ := ix_rir_eq q
    obtain ⟨t, n, a, ho, q3⟩ := ix_aq_eq q2
    obtain ⟨t2, n2, a2, hv, q4⟩ := ix_ai_eq q3
    split at q4
    · next hc =>
      obtain ⟨rfl, rfl, rfl, rfl⟩ := ix_go_eq q4
      obtain ⟨hn, hnv, rfl, rfl, hin⟩ := hc
      intro ad H locs ls hI hL hw
      have hin := ix_in_eq hin
      have hlt : i.toNatClampNeg < n := Nat.not_le.mp fun q => hin (Or.inr q)
      have h0 : ¬ i < 0 := fun q => hin (Or.inl q)
      have he := ix_w_get (ad := ad) (cA := cA) ho hn
      have hev := ix_w_get (ad := ad) (cA := cA) hv hnv
      obtain ⟨-, k1, hk1, cm1, hkk1⟩ := (hK.2 5 _ (ix_ty_get ht5)).1 n (fun j => va_rf ((a j).map ad))
      obtain ⟨-, k2, hk2, cm2, hkk2⟩ := (hK.2 0 _ (ix_ty_get ht0)).1 n2 (fun j => .int (a2 j))
      obtain ⟨kA, g1, g2⟩ := ix_comp hts hV (hK.2 5 _ (ix_ty_get ht5)).2 (hK.2 0 _ (ix_ty_get ht0)).2
      obtain rfl : k1 = kA := Option.some.inj (hk1.symm.trans g1)
      refine W.aast (t := .array .int) hx hb (hI.1 (o - ix_NR P) _ he) (fun q h => by cases h) (fun h => by cases h) hk1 g2 rfl hk2 ⟨h0, by show _ < (arrV _ _ _).slots.size; rw [arrV_size]; exact hlt⟩ (hI.1 (v - ix_NR P) _ hev) (fun q h => by cases h) hk2 (va_asg _ _) rfl rfl hd fun H1 e1 z1 oq => ?_
      have e2 : ix_c ad cA (.inl (5, n, .inr (.inr (.inr (.inr (va_up a i.toNatClampNeg (some v))))))) = .inl (cA 5, n, .inr (.inr (.inr (.inr (fun j => (va_up a i.toNatClampNeg (some v) j).map ad))))) := rfl
      refine k.at (hI.set hn ho rfl e2 (hI.1.set hI.2.1 he ?_ oq) (hI.2.1.set he) (hI.2.2.1.put z1 oq (hI.2.1.2 _ _ he))) hL (hw.pop.pop.pop.set (fun j z hz => ?_)) rfl (by rw [List.length_set]) (ix_szs ho rfl)
      · show H1[ad o]? = some (vp_cell _ _)
        rw [e1]
        show some ((vp_cell (cA 5) (n, .inr (.inr (.inr (.inr (fun j => (a j).map ad)))))).setSlot i.toNatClampNeg (.ref (ad v))) = some (vp_cell (cA 5) (n, .inr (.inr (.inr (.inr (fun j => (va_up a i.toNatClampNeg (some v) j).map ad))))))
        rw [vp_cell_q, vp_cell_q, arrV_store]
        congr 2
        funext j
        by_cases hj : j = i.toNatClampNeg
        · subst hj
          simp [updV, va_up, va_rf]
        · simp [updV, va_up, hj]
      · by_cases hj : j = i.toNatClampNeg
        · subst hj
          rw [va_up_self] at hz
          cases hz
          exact hw.top
        · rw [show va_up a i.toNatClampNeg (some v) j = a j from if_neg hj] at hz
          exact hw.2.2 _ (List.mem_of_getElem? ho) _ _ hz
    · cases q4
  · cases q
theorem ix_mF {x : Nat × Nat × ix_F} (hV : ix_V P = true) (hm : x ∈ ix_FT P) : ix_vF P x = true := by
  simp only [ix_V, Bool.and_eq_true, List.all_eq_true] at hV
  exact hV.1.1.1.1.2 x hm
theorem ix_mN {x : Nat × Nat × Nat × List FieldType} (hV : ix_V P = true) (hm : x ∈ ix_NT P) : ix_vN P x = true := by
  simp only [ix_V, Bool.and_eq_true, List.all_eq_true] at hV
  exact hV.1.1.1.2 x hm
theorem ix_mC {x : Nat × Nat × ix_K} (hV : ix_V P = true) (hm : x ∈ ix_CT P) : ix_vC P x = true := by
  simp only [ix_V, Bool.and_eq_true, List.all_eq_true] at hV
  exact hV.1.1.2 x hm
theorem ix_mM {x : ix_M} (hV : ix_V P = true) (hm : x ∈ ix_MT P) : ix_vM P x = true := by
  simp only [ix_V, Bool.and_eq_true, List.all_eq_true] at hV
  exact hV.1.2 x hm
theorem ix_mnm {x : vw_C} (hV : ix_V P = true) (hm : x ∈ ix_CL P) : (∀ a, a < x.2.2 → ∀ b, b < x.2.2 → a ≠ b → (x.2.1 a).2.1 ≠ (x.2.1 b).2.1) ∧ ∃ ty : Nat → FieldType, ∀ k, k < x.2.2 → parseFieldDescriptor (x.2.1 k).2.2.1 = some (ty k) := by
  simp only [ix_V, Bool.and_eq_true, List.all_eq_true] at hV
  have h1 := hV.1.1.1.1.1.1.2 x hm
  have h2 := hV.1.1.1.1.1.2 x hm
  simp only [ix_nm, ix_tp, List.all_eq_true, List.mem_range] at h1 h2
  refine ⟨fun a ha b hb hab => ?_, ⟨fun k => (parseFieldDescriptor (x.2.1 k).2.2.1).getD .int, fun k hk => ?_⟩⟩
  · have := h1 a ha b hb
    simpa [hab] using this
  · obtain ⟨y, hy⟩ := Option.isSome_iff_exists.mp (h2 k hk)
    simp only [hy, Option.getD_some]
theorem ix_wsIn {x : vw_C} (hm : x ∈ ix_CL P) : ∀ w ∈ u_ws x.1 x.2.1 x.2.2, w ∈ ix_WL P := fun w hw => by
  unfold ix_WL
  exact List.mem_append_left _ (List.mem_flatMap.mpr ⟨x, hm, hw⟩)
theorem ix_wFin {x : Nat × Nat × ix_F} (hm : x ∈ ix_FT P) : ∀ w ∈ ix_wF P x, w ∈ ix_WL P := fun w hw => by
  unfold ix_WL
  simp only [List.mem_append, List.mem_flatMap]
  exact Or.inr (Or.inl ⟨x, hm, hw⟩)
theorem ix_ft_nar {ty : FieldType} {v : Value} (h : ix_ft ty v = true) : narrow ty (ix_v ad v) = ix_v ad v ∧ fits ty (ix_v ad v) = true := by
  unfold ix_ft at h
  split at h
  · exact ⟨rfl, rfl⟩
  · next x =>
    have h1 : x = 0 ∨ x = 1 := by simpa using h
    rcases h1 with rfl | rfl <;> exact ⟨rfl, rfl⟩
  · next x =>
    have h1 := of_decide_eq_true h
    have h2 := pk_nb x
    have h3 := pk_fb x
    rw [h1] at h2 h3
    exact ⟨h2, h3⟩
  · next x =>
    have h1 := of_decide_eq_true h
    have h2 := pk_nc x
    have h3 := pk_fc x
    rw [h1] at h2 h3
    exact ⟨h2, h3⟩
  · exact ⟨rfl, rfl⟩
  · exact ⟨rfl, rfl⟩
  · exact ⟨rfl, rfl⟩
  · exact ⟨rfl, rfl⟩
  · exact ⟨rfl, rfl⟩
  · exact ⟨rfl, rfl⟩
  · cases h

theorem ix_p_getfield {i : Nat} (X : ix_X P mi own D ad0 cA A ro p s m args meth c) (hd : decode mi.2.2.1 pc = .ok (.getfield i, len)) (q : ix_s1 P mi pc lv st h len (.getfield i) = some (.inl (pc', lv', st', h'))) (hR : h'.length - n0 ≤ R.cells ∧ ix_sz h' - s0 ≤ R.slots ∧ 1 ≤ R.frames ∧ 60 ≤ R.locals) (k : ix_W P D ad0 cA A ro p l e R s m args below meth c Q n0 s0 mi.2.2.2.1 pc' lv' st' h') : ix_W P D ad0 cA A ro p l e R s m args below meth c Q n0 s0 mi.2.2.2.1 pc lv st h := by
  obtain ⟨hx, hb, hml, hr, hlocks, hon, hown, hini, hK, hts, hV, hA, hO⟩ := X
  obtain ⟨ht0, ht1, ht2, ht3, ht5⟩ := ix_ty0 hV
  simp only [ix_s1] at q
  split at q
  · next hlen =>
    subst hlen
    obtain ⟨o, r, rfl, q2⟩ := ix_r_eq q
    split at q2
    · next x hx0 =>
      obtain ⟨cc, fs, ho, q3⟩ := ix_ob_eq q2
      split at q3
      · next hc =>
        obtain ⟨hc1, rfl⟩ := hc
        split at q3
        · next v hv =>
          obtain ⟨rfl, rfl, rfl, rfl⟩ := ix_go_eq q3
          have hm := ix_fd_mem hx0
          have hF := ix_mF hV hm
          have hwF := ix_wFin hm
          unfold ix_vF at hF
          unfold ix_wF at hwF
          obtain ⟨ci, kf, ty, fin, host⟩ := x
          simp only at hc1 ho hv hF hwF
          rw [hon] at hF hwF
          cases hcl : (ix_CL P)[ci]? with
          | none => rw [hcl] at hF; cases hF
          | some row =>
          obtain ⟨C, T, N⟩ := row
          rw [hcl] at hF hwF
          simp only [Bool.and_eq_true, decide_eq_true_eq] at hF
          have hlk := hts _ (hwF _ (List.mem_singleton.mpr rfl))
          intro ad H locs ls hI hL hw
          have hwv : ix_wv _ v := hw.2.2 _ (List.mem_of_getElem? ho) v (List.mem_of_getElem? hv)
          by_cases hn : ix_NR P ≤ o
          · have he := ix_w_get (ad := ad) (cA := cA) ho hn
            have hv2 : (fs.map (ix_v ad))[kf]? = some (ix_v ad v) := by rw [List.getElem?_map, hv]; rfl
            cases host with
            | none => exact va_get (ci := ci) (C := C) (T := T) (N := N) hx hb hts (ix_wsIn (List.mem_of_getElem? hcl)) hown hK hI.1 (o - ix_NR P) he hcl kf hF.1.1.1 hlk (fun _ h9 => h9) hv2 hd (k ad H locs ls hI hL (hw.pop.push hwv))
            | some g => exact va_getN (ci := ci) (C := C) (T := T) (N := N) hx hb hts (ix_wsIn (List.mem_of_getElem? hcl)) hown hK hI.1 (o - ix_NR P) he hcl kf hF.1.1.1 hlk (fun _ h9 => h9) hv2 hd (k ad H locs ls hI hL (hw.pop.push hwv))
          · have hold := hI.old (Nat.lt_of_not_le hn) ho
            obtain ⟨row, g1, g2, g3⟩ := hO.1 _ _ hold.1
            rw [hcl] at g1
            cases g1
            have g4 := g3 _ _ hv
            have hvv : ix_v ad v = ix_v ad0 v := by
              have h9 := hO.2.2.2.2 _ (List.mem_of_getElem? hold.1) v (List.mem_of_getElem? hv)
              exact ix_v_ad (fun k9 hk9 => hI.2.2.2.1 k9 (Nat.lt_of_lt_of_le hk9 hI.2.2.2.2.2.1)) h9
            rw [← hold.2, ← hvv] at g4
            rcases hc1 with hc1 | hc1
            · exact absurd hc1 hn
            · subst hc1
              exact vk_getf hx hb g4 hI.2.2.1 hown hlk (fun _ h9 => h9) hd (k ad H locs ls hI hL (hw.pop.push hwv))
        · cases q3
      · cases q3
    · cases q2
  · cases q
theorem ix_p_putfield {i : Nat} (X : ix_X P mi own D ad0 cA A ro p s m args meth c) (hd : decode mi.2.2.1 pc = .ok (.putfield i, len)) (q : ix_s1 P mi pc lv st h len (.putfield i) = some (.inl (pc', lv', st', h'))) (hR : h'.length - n0 ≤ R.cells ∧ ix_sz h' - s0 ≤ R.slots ∧ 1 ≤ R.frames ∧ 60 ≤ R.locals) (k : ix_W P D ad0 cA A ro p l e R s m args below meth c Q n0 s0 mi.2.2.2.1 pc' lv' st' h') : ix_W P D ad0 cA A ro p l e R s m args below meth c Q n0 s0 mi.2.2.2.1 pc lv st h := by
  obtain ⟨hx, hb, hml, hr, hlocks, hon, hown, hini, hK, hts, hV, hA, hO⟩ := X
  obtain ⟨ht0, ht1, ht2, ht3, ht5⟩ := ix_ty0 hV
  simp only [ix_s1] at q
  split at q
  · next hlen =>
    subst hlen
    obtain ⟨v, o, r, rfl, q2⟩ := ix_vr_eq q
    split at q2
    · next x hx0 =>
      obtain ⟨cc, fs, ho, q3⟩ := ix_ob_eq q2
      split at q3
      · next hc =>
        obtain ⟨hn, rfl, hlt, hft, hfin⟩ := hc
        obtain ⟨rfl, rfl, rfl, rfl⟩ := ix_go_eq q3
        have hm := ix_fd_mem hx0
        have hF := ix_mF hV hm
        have hwF := ix_wFin hm
        unfold ix_vF at hF
        unfold ix_wF at hwF
        obtain ⟨ci, kf, ty, fin, host⟩ := x
        simp only at ho hF hwF hft hfin hlt
        rw [hon] at hF hwF
        cases hcl : (ix_CL P)[ci]? with
        | none => rw [hcl] at hF; cases hF
        | some row =>
        obtain ⟨C, T, N⟩ := row
        rw [hcl] at hF hwF
        simp only [Bool.and_eq_true, decide_eq_true_eq, Bool.or_eq_true, Bool.not_eq_true', beq_iff_eq] at hF
        obtain ⟨⟨⟨f1, f2⟩, f3⟩, f4⟩ := hF
        have hlk := hts _ (hwF _ (List.mem_singleton.mpr rfl))
        obtain ⟨hnm, ty0, hty0⟩ := ix_mnm hV (List.mem_of_getElem? hcl)
        intro ad H locs ls hI hL hw
        have he := ix_w_get (ad := ad) (cA := cA) ho hn
        obtain ⟨hnar, hfit⟩ := ix_ft_nar (ad := ad) hft
        have e2 : ix_c ad cA (.inr (ci, fs.set kf v)) = .inr (ci, (fs.map (ix_v ad)).set kf (ix_v ad v)) := by
          show Sum.inr (ci, (fs.set kf v).map (ix_v ad)) = _
          rw [List.map_set]
        have hsz : ix_cs (.inr (ci, fs.set kf v)) = ix_cs (.inr (ci, fs)) := by simp [ix_cs]
        have hwc : ix_wc h.length (.inr (ci, fs.set kf v)) := fun y hy => (List.mem_or_eq_of_mem_set hy).elim (fun q => hw.2.2 _ (List.mem_of_getElem? ho) y q) (fun q => q ▸ hw.top)
        have hl2 : kf < (fs.map (ix_v ad)).length := by rw [List.length_map]; exact hlt
        cases host with
        | none =>
          cases hfv : fin with
          | false =>
            subst hfv
            exact va_put (ci := ci) (C := C) (T := T) (N := N) (ty := ty) hx hb hts (ix_wsIn (List.mem_of_getElem? hcl)) ty0 hty0 hnm hown hK hI.1 hI.2.1 hI.2.2.1 (o - ix_NR P) he hcl kf f1 hlk (fun _ h9 => h9) f2 f3 hnar hfit hl2 hd (fun H1 locs1 hP1 hD1 hS1 => k.at (hI.set hn ho hsz e2 hP1 hD1 hS1) hL (hw.pop.pop.set hwc) rfl (by rw [List.length_set]) (ix_szs ho hsz))
          | true =>
            subst hfv
            rcases hfin with h9 | ⟨h9, -⟩
            · cases h9
            · exact va_putF (ci := ci) (C := C) (T := T) (N := N) (ty := ty) hx hb hts (ix_wsIn (List.mem_of_getElem? hcl)) ty0 hty0 hnm hown hK hI.1 hI.2.1 hI.2.2.1 (o - ix_NR P) he hcl kf f1 hlk (fun _ h9 => h9) f2 (hini h9) (by simpa using f4) f3 hnar hfit hl2 hd (fun H1 locs1 hP1 hD1 hS1 => k.at (hI.set hn ho hsz e2 hP1 hD1 hS1) hL (hw.pop.pop.set hwc) rfl (by rw [List.length_set]) (ix_szs ho hsz))
        | some g =>
          rcases hfin with h9 | ⟨-, h9⟩
          · subst h9
            exact va_putN (ci := ci) (C := C) (T := T) (N := N) (ty := ty) hx hb hts (ix_wsIn (List.mem_of_getElem? hcl)) ty0 hty0 hnm hown hK hI.1 hI.2.1 hI.2.2.1 (o - ix_NR P) he hcl kf f1 hlk (fun _ h9 => h9) f2 f3 hnar hfit hl2 hd (fun H1 locs1 hP1 hD1 hS1 => k.at (hI.set hn ho hsz e2 hP1 hD1 hS1) hL (hw.pop.pop.set hwc) rfl (by rw [List.length_set]) (ix_szs ho hsz))
          · cases h9
      · cases q3
    · cases q2
  · cases q
theorem ix_prim {a : ArrayType} {t : Nat} {ad0 : Nat → Nat} (htt : ix_pt a = some t) : ([FieldType.int, .long, .byte, .boolean, .byte, .array .int])[t]? = some (newarray.typeOf a) ∧ (∀ C, newarray.typeOf a ≠ .object C) ∧ (∀ C, newarray.typeOf a ≠ .array C) ∧ componentBytes (newarray.typeOf a) ≤ 8 ∧ (∀ (cA : ClassId) (N : Nat), vp_cell cA (N, ix_ct ad0 (ix_z (newarray.typeOf a))) = arrV cA N (fun _ => defaultValue (newarray.typeOf a))) ∧ (∀ ad : Nat → Nat, ix_ct ad (ix_z (newarray.typeOf a)) = ix_ct ad0 (ix_z (newarray.typeOf a))) ∧ (∀ N z, ix_wc N (.inl (t, z, ix_z (newarray.typeOf a)))) := by
  have hf : ∀ j : Nat, fits .byte (.int ((fun _ => (0 : Int32)) j)) = true := fun _ => rfl
  cases a with
  | int => obtain rfl : 0 = t := Option.some.inj htt; exact ⟨rfl, (fun C h => by cases h), (fun C h => by cases h), (by decide), fun cA N => rfl, fun ad => rfl, fun N z q => by cases q⟩
  | long => obtain rfl : 1 = t := Option.some.inj htt; exact ⟨rfl, (fun C h => by cases h), (fun C h => by cases h), (by decide), fun cA N => rfl, fun ad => rfl, fun N z => trivial⟩
  | byte => obtain rfl : 2 = t := Option.some.inj htt; exact ⟨rfl, (fun C h => by cases h), (fun C h => by cases h), (by decide), fun cA N => rfl, fun ad => rfl, fun N z _ => hf⟩
  | boolean => obtain rfl : 3 = t := Option.some.inj htt; exact ⟨rfl, (fun C h => by cases h), (fun C h => by cases h), (by decide), fun cA N => rfl, fun ad => rfl, fun N z q => by cases q⟩
  | _ => cases htt
theorem ix_big_eq {n : Int32} (h : ix_big n = true) : ¬ n < 0 ∧ n.toNatClampNeg ≤ 50000000 := by
  simp only [ix_big, Bool.and_eq_true, decide_eq_true_eq] at h
  refine ⟨fun q => ?_, ?_⟩
  · have := Int32.lt_iff_toInt_lt.mp q
    have h0 : (0 : Int32).toInt = 0 := rfl
    omega
  · show n.toInt.toNat ≤ _
    omega
theorem ix_wPr {ty : FieldType} {w : Cond} : ∀ {l : List FieldType}, ty ∈ l → w ∈ (match ty with
    | .object _ => []
    | .array t => [Cond.arrayOver (.array t)]
    | t => [Cond.arrayClass t]) → w ∈ ix_pr l
  | [], h, _ => by cases h
  | a :: r, h, hw => by
    unfold ix_pr
    rcases List.mem_cons.mp h with rfl | h
    · exact List.mem_append_left _ hw
    · exact List.mem_append_right _ (ix_wPr h hw)
theorem ix_wTin {ty : FieldType} {w : Cond} (hm : ty ∈ ix_TY P) (hw : w ∈ (match ty with
    | .object _ => []
    | .array t => [Cond.arrayOver (.array t)]
    | t => [Cond.arrayClass t])) : w ∈ ix_WL P := by
  unfold ix_WL
  simp only [List.mem_append]
  exact Or.inr (Or.inr (Or.inr (Or.inr (Or.inr (Or.inr (Or.inl (ix_wPr hm hw)))))))
theorem ix_wNin {x : Nat × Nat × Nat × List FieldType} (hm : x ∈ ix_NT P) : ∀ w ∈ ix_wN P x, w ∈ ix_WL P := fun w hw => by
  unfold ix_WL
  simp only [List.mem_append, List.mem_flatMap]
  exact Or.inr (Or.inr (Or.inl ⟨x, hm, hw⟩))
theorem ix_def_v {ty : FieldType} : ix_v ad (defaultValue ty) = defaultValue ty := by cases ty <;> rfl
theorem ix_def_w {n : Nat} {ty : FieldType} : ix_wv n (defaultValue ty) := by cases ty <;> trivial

theorem ix_p_newarray {a : ArrayType} (X : ix_X P mi own D ad0 cA A ro p s m args meth c) (hd : decode mi.2.2.1 pc = .ok (.newarray a, len)) (q : ix_s1 P mi pc lv st h len (.newarray a) = some (.inl (pc', lv', st', h'))) (hR : h'.length - n0 ≤ R.cells ∧ ix_sz h' - s0 ≤ R.slots ∧ 1 ≤ R.frames ∧ 60 ≤ R.locals) (k : ix_W P D ad0 cA A ro p l e R s m args below meth c Q n0 s0 mi.2.2.2.1 pc' lv' st' h') : ix_W P D ad0 cA A ro p l e R s m args below meth c Q n0 s0 mi.2.2.2.1 pc lv st h := by
  obtain ⟨hx, hb, hml, hr, hlocks, hon, hown, hini, hK, hts, hV, hA, hO⟩ := X
  obtain ⟨ht0, ht1, ht2, ht3, ht5⟩ := ix_ty0 hV
  simp only [ix_s1] at q
  split at q
  · next hlen =>
    subst hlen
    obtain ⟨n, r, rfl, q2⟩ := ix_i_eq q
    split at q2
    · next t htt =>
      split at q2
      · next hbig =>
        obtain ⟨rfl, rfl, rfl, rfl⟩ := ix_go_eq q2
        obtain ⟨hn0, hnb⟩ := ix_big_eq hbig
        have hT : (ix_TY P)[t]? = some (newarray.typeOf a) ∧ (∀ C, newarray.typeOf a ≠ .object C) ∧ (∀ C, newarray.typeOf a ≠ .array C) ∧ componentBytes (newarray.typeOf a) ≤ 8 ∧ (∀ (cA : ClassId) (N : Nat), vp_cell cA (N, ix_ct ad0 (ix_z (newarray.typeOf a))) = arrV cA N (fun _ => defaultValue (newarray.typeOf a))) ∧ (∀ ad : Nat → Nat, ix_ct ad (ix_z (newarray.typeOf a)) = ix_ct ad0 (ix_z (newarray.typeOf a))) ∧ (∀ N z, ix_wc N (.inl (t, z, ix_z (newarray.typeOf a)))) := by
          simp only [ix_V, Bool.and_eq_true, decide_eq_true_eq] at hV
          rw [hV.2]
          exact ix_prim htt
        obtain ⟨g1, g2, g2b, g3, g4, g5, g6⟩ := hT
        have hac : (Cond.arrayClass (newarray.typeOf a)).before args s = true := hts _ (ix_wTin (List.mem_of_getElem? g1) (by
          revert g2 g2b
          cases newarray.typeOf a <;> intro g2 g2b <;> first | exact List.mem_singleton.mpr rfl | exact absurd rfl (g2 _) | exact absurd rfl (g2b _)))
        intro ad H locs ls hI hL hw
        obtain ⟨hR1, hR2, -, -⟩ := hR
        rw [List.length_append] at hR1
        rw [ix_sz_push] at hR2
        have hn0' := hI.2.2.2.2.2.2
        have hcs : ix_cs (.inl (t, n.toNatClampNeg, ix_z (newarray.typeOf a))) = n.toNatClampNeg := rfl
        refine va_newaK hx hb hac (g := F0 m pc ls (.int n :: r.map (ix_v ad))) rfl hd rfl hn0 rfl (Nat.le_trans (Nat.mul_le_mul hnb g3) (by decide)) (by simp only [List.length_singleton] at hR1; omega) (by rw [hcs] at hR2; omega) rfl fun H1 cA1 e1 z1 o1 hAr hNm => ?_
        have hcA : cA1 = cA t := by
          have h9 := (hK.2 t _ (ix_ty_get g1)).2
          have h8 : s.vm.findClass ("[" ++ (newarray.typeOf a).toString) = some (cA t) := by
            revert h9 g2
            cases newarray.typeOf a <;> intro g2 h9 <;> first | exact h9 | exact absurd rfl (g2 _)
          exact Option.some.inj (hNm.symm.trans h8)
        subst hcA
        have hk : ∀ (k : Nat) (x : Nat × va_E), (ix_w ad cA (ix_NR P) h)[k]? = some x → H1[x.1]? = H[x.1]? := fun k x hx => o1 x.1 ((hI.1 k x hx).lt)
        have hc9 : ix_c (ix_up ad h.length H.size) cA (.inl (t, n.toNatClampNeg, ix_z (newarray.typeOf a))) = .inl (cA t, n.toNatClampNeg, ix_ct ad0 (ix_z (newarray.typeOf a))) := by
          show Sum.inl (cA t, n.toNatClampNeg, ix_ct _ _) = _
          rw [g5]
        have hS1 : va_S A s.heap H1 locs := ⟨Nat.le_trans hI.2.2.1.1 (by omega), fun x h1 h2 => (o1 x (Nat.lt_of_lt_of_le h1 hI.2.2.1.1)).trans (hI.2.2.1.2.1 x h1 h2), hI.2.2.1.2.2⟩
        have hI1 := hI.push (q := H.size) hw hc9 ((hI.1.kept hk).app (fun k x hx => by
          have hz : k < 1 := (List.getElem?_eq_some_iff.mp hx).1
          rw [show k = 0 by omega] at hx
          cases hx
          show H1[H.size]? = some (vp_cell _ _)
          rw [e1]
          exact congrArg some (g4 _ _).symm)) (hI.2.1.push hI.1 rfl (hA _ hI.2.2.1.1)) hS1
        refine W.eq (g2 := F0 m (pc + 2) ls (.ref H.size :: r.map (ix_v ad))) rfl ?_
        refine k.at hI1 (hL.up hw) ((hw.pop.app (h1 := [_]) (fun x hx => by rw [List.mem_singleton.mp hx]; exact g6 _ _)).push (by show h.length < _; rw [List.length_append]; exact Nat.lt_succ_self _)) ?_ (by rw [List.length_append, List.length_singleton]; omega) (by rw [ix_sz_push, hcs]; omega)
        rw [List.map_cons, ix_vs_up hw.pop]
        show Value.ref (ix_up ad h.length H.size h.length) :: _ = _
        rw [ix_up_eq]
      · cases q2
    · cases q2
  · cases q
theorem ix_p_new {i : Nat} (X : ix_X P mi own D ad0 cA A ro p s m args meth c) (hd : decode mi.2.2.1 pc = .ok (.new i, len)) (q : ix_s1 P mi pc lv st h len (.new i) = some (.inl (pc', lv', st', h'))) (hR : h'.length - n0 ≤ R.cells ∧ ix_sz h' - s0 ≤ R.slots ∧ 1 ≤ R.frames ∧ 60 ≤ R.locals) (k : ix_W P D ad0 cA A ro p l e R s m args below meth c Q n0 s0 mi.2.2.2.1 pc' lv' st' h') : ix_W P D ad0 cA A ro p l e R s m args below meth c Q n0 s0 mi.2.2.2.1 pc lv st h := by
  obtain ⟨hx, hb, hml, hr, hlocks, hon, hown, hini, hK, hts, hV, hA, hO⟩ := X
  obtain ⟨ht0, ht1, ht2, ht3, ht5⟩ := ix_ty0 hV
  simp only [ix_s1] at q
  split at q
  · next hlen =>
    subst hlen
    split at q
    · next x hx0 =>
      obtain ⟨rfl, rfl, rfl, rfl⟩ := ix_go_eq q
      have hm := ix_fd_mem hx0
      have hF := ix_mN hV hm
      have hwN := ix_wNin hm
      unfold ix_vN at hF
      unfold ix_wN at hwN
      obtain ⟨ci, tys⟩ := x
      simp only at hF hwN
      rw [hon] at hF hwN
      cases hcl : (ix_CL P)[ci]? with
      | none => rw [hcl] at hF; cases hF
      | some row =>
      obtain ⟨C, T, N⟩ := row
      rw [hcl] at hF hwN
      simp only [Bool.and_eq_true, decide_eq_true_eq, List.all_eq_true, List.mem_range] at hF
      obtain ⟨f1, f2⟩ := hF
      intro ad H locs ls hI hL hw
      obtain ⟨hR1, hR2, -, -⟩ := hR
      rw [List.length_append, List.length_singleton] at hR1
      rw [ix_sz_push] at hR2
      have hn0' := hI.2.2.2.2.2.2
      have hcs : ix_cs (.inr (ci, tys.map defaultValue)) = N + 6 := by simp [ix_cs, f1]
      rw [hcs] at hR2
      have hty : ∀ k, k < N → parseFieldDescriptor (T k).2.2.1 = some ((tys[k]?).getD .int) := fun k hk => by
        rw [f2 k hk, List.getElem?_eq_getElem (by omega)]
        rfl
      refine va_new (ci := ci) (C := C) (T := T) (N := N) (fs := tys.map defaultValue) hx hb hts (ix_wsIn (List.mem_of_getElem? hcl)) (fun k => (tys[k]?).getD .int) hty hown (hts _ (hwN _ (by simp))) (hts _ (hwN _ (by simp))) (hts _ (hwN _ (by simp))) hK hI.1 hI.2.1 hI.2.2.1 hA hcl (fun j hj => ?_) (by omega) (by omega) hd (fun q9 H1 hP1 hD1 hS1 => ?_)
      · have h9 : j < tys.length := by omega
        simp [vp_V, List.getD, h9]
      · have hc9 : ix_c (ix_up ad h.length q9) cA (.inr (ci, tys.map defaultValue)) = .inr (ci, tys.map defaultValue) := by
          show Sum.inr (ci, (tys.map defaultValue).map _) = _
          rw [List.map_map]
          congr 2
          exact List.map_congr_left fun t _ => ix_def_v
        have hI1 := hI.push (q := q9) hw hc9 hP1 hD1 hS1
        refine W.widen (k := h.length - n0 + 1) (n := ix_sz h - s0 + (N + 6)) (by omega) (by omega) ?_
        refine k.at hI1 (hL.up hw) ((hw.app (h1 := [_]) (fun x hx => by rw [List.mem_singleton.mp hx]; exact fun v hv => by obtain ⟨t, -, rfl⟩ := List.mem_map.mp hv; exact ix_def_w)).push (by show h.length < _; rw [List.length_append]; exact Nat.lt_succ_self _)) ?_ (by rw [List.length_append, List.length_singleton]; omega) (by rw [ix_sz_push, hcs]; omega)
        rw [List.map_cons, ix_vs_up hw]
        show Value.ref (ix_up ad h.length q9 h.length) :: _ = _
        rw [ix_up_eq]
    · cases q
  · cases q
end IXH
