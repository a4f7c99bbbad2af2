/-! A CALL of the small machine is the JVM's. -/
section IXH
variable {P : ix_P} {mi : ix_M} {own : String} {D : va_G} {ad0 : Nat → Nat} {cA : Nat → ClassId} {A : Nat → Prop} {ro : ix_H} {p : Program} {l : Launch} {e : Env} {R : Room} {s : State} {m : MethodId} {args : Array Value} {below : List Frame} {meth : Method} {c : Code} {Q : State → Prop} {n0 s0 pc pc' len nL : Nat} {lv lv' : ix_L} {st st' : List Value} {h h' : ix_H} {ad : Nat → Nat} {H H1 : Heap} {locs locs1 : List Loc} {ls : Array Slot}
theorem ix_en_mem {n : Nat} {vs : List Value} {v : Value} (hv : some v ∈ ix_en n vs) : v ∈ vs := by
  unfold ix_en at hv
  rcases List.mem_append.mp hv with h1 | h1
  · unfold ix_sl at h1
    obtain ⟨a, ha, h2⟩ := List.mem_flatMap.mp h1
    split at h2
    · rcases List.mem_cons.mp h2 with h3 | h3
      · cases h3
        exact ha
      · rw [List.mem_singleton] at h3
        cases h3
    · rw [List.mem_singleton] at h2
      cases h2
      exact ha
  · cases (List.mem_replicate.mp h1).2
theorem ix_room_l {a b c : Nat} (h1 : a ≤ 40) (h2 : 60 * (b + 5) ≤ c) : 8 + (a + 11) + 60 * (b + 4) ≤ c := by omega
theorem ix_params {desc : String} {k : Nat} (hp : (parseMethodDescriptor desc).map (fun d => d.parameters.length) = some k) : ∀ sig, parseMethodDescriptor desc = some sig → k = sig.parameters.length := fun sig hs => by
  rw [hs] at hp
  exact (Option.some.inj hp).symm
set_option maxHeartbeats 2000000 in
theorem ix_call {ins : Instr} {kx : ix_K} {me : ix_M} {as rest : List Value} {n d' : Nat} {v : Option Value} {h1 : ix_H} (X : ix_X P mi own D ad0 cA A ro p s m args meth c) (hd : decode mi.2.2.1 pc = .ok (ins, len)) (q : ix_cl P mi st h len ins = some (kx, me, as, rest)) (hC : ix_CC P l n) (hrun : ix_ex P n d' kx.2.1 0 (ix_en me.2.2.2.1 as) [] h = some (.inl v, h1))
    (hR : h1.length - n0 ≤ R.cells ∧ ix_sz h1 - s0 ≤ R.slots ∧ d' + 10 ≤ R.frames ∧ 60 * (d' + 5) ≤ R.locals) (kk : ix_W P D ad0 cA A ro p l e R s m args below meth c Q n0 s0 mi.2.2.2.1 (pc + 3) lv (v.toList ++ rest) h1) : ix_W P D ad0 cA A ro p l e R s m args below meth c Q n0 s0 mi.2.2.2.1 pc lv st h := by
  have X0 := X
  obtain ⟨hx, hb, hml, hr, hlocks, hon, hown, hini, hK, hts, hV, hA, hO⟩ := X
  have hgm := ix_ex_gm _ _ _ _ _ _ _ _ _ hrun
  -- what the call says
  have hcl : ∃ i k3, ix_s2 P mi st h i k3 = some (kx, me, as, rest) ∧ len = 3 ∧ ((k3 = 0 ∧ ins = .invokevirtual i) ∨ (k3 = 1 ∧ ins = .invokestatic i) ∨ (k3 = 2 ∧ ins = .invokespecial i)) := by
    unfold ix_cl at q
    split at q
    · next i => exact ⟨i, 0, (Option.ite_none_right_eq_some.mp q).2, (Option.ite_none_right_eq_some.mp q).1, Or.inl ⟨rfl, rfl⟩⟩
    · next i => exact ⟨i, 1, (Option.ite_none_right_eq_some.mp q).2, (Option.ite_none_right_eq_some.mp q).1, Or.inr (Or.inl ⟨rfl, rfl⟩)⟩
    · next i => exact ⟨i, 2, (Option.ite_none_right_eq_some.mp q).2, (Option.ite_none_right_eq_some.mp q).1, Or.inr (Or.inr ⟨rfl, rfl⟩)⟩
    · cases q
  obtain ⟨i, k3, q2, rfl, hins⟩ := hcl
  obtain ⟨hm, hme, hk3, hna, hcat, hsl, hst, hlen, hrec⟩ := ix_s2_eq q2
  have hmem := List.mem_of_getElem? hme
  have hvM := ix_mM hV hmem
  have hvC := ix_mC hV hm
  have hwC := ix_wCin hm
  unfold ix_vM at hvM
  unfold ix_vC at hvC
  unfold ix_wC at hwC
  simp only at hvC hwC
  rw [hon, hme] at hvC hwC
  simp only at hvC hwC
  have hmax : me.2.2.2.1 ≤ 40 := by
    split at hvM
    · simp only [Bool.and_eq_true, decide_eq_true_eq] at hvM
      exact hvM.1.1.1.2
    · cases hvM
  simp only [Bool.and_eq_true, decide_eq_true_eq, Bool.or_eq_true, beq_iff_eq] at hvC
  obtain ⟨⟨⟨⟨⟨⟨⟨⟨⟨⟨v1, v2⟩, v3⟩, v4⟩, v5⟩, v6⟩, v9⟩, v7⟩, v8⟩, v10⟩, v11⟩ := hvC
  have hmt := ix_tailM hme v10
  have hini9 := hts _ (hwC (.initialized me.1.cls) List.mem_cons_self)
  have hcode := hts _ (ix_wMin hmt)
  have hws := ix_ws_all hts hV hmt
  intro ad H locs ls hI hL hw
  have hn9 := hI.2.2.2.2.2.2.1
  have hs9 := hI.2.2.2.2.2.2.2
  have hNR := hI.2.2.2.2.2.1
  have hMet := hC d' kx.2.1 me as h h1 v D ad cA ro H.size hV hme hsl hrun
  have hA1 : ∀ q, va_A (ix_w ad cA (ix_NR P) h) H.size q → A q := fun q hq => by
    rcases hq with ⟨k, e9, hk⟩ | hq
    · exact hI.2.1.2 k _ hk
    · exact hA q (Nat.le_trans hI.2.2.1.1 hq)
  have hwas : ∀ v ∈ as, ix_wv h.length v := fun v hv => hw.2.1 v (by rw [hst]; exact List.mem_append_left _ (List.mem_reverse.mpr hv))
  have hwrest : ∀ v ∈ rest, ix_wv h.length v := fun v hv => hw.2.1 v (by rw [hst]; exact List.mem_append_right _ hv)
  have hPre : ∀ U : State, U.heap = H → s.WarmedH U.vm → va_Pc (as.map (ix_v ad)) (ix_B P D cA ad ro h (ix_en me.2.2.2.1 as) H.size) (as.map (ix_v ad)).toArray U := fun U hU hWm => by
    refine ⟨rfl, by rw [hU], by rw [hU]; exact hI.1, va_K.moved hWm.alike hK, ⟨hI.2.1.1, fun _ _ _ => trivial⟩, ?_, hI.2.2.2.2.1, Nat.le_trans hNR hn9, fun v hv => hwas v (ix_en_mem hv), fun v hv => (by cases hv), hw.2.2⟩
    exact hO.gen (fun a g1 g2 => by rw [hU]; exact hI.2.2.1.2.1 a g1 g2) hA1 hWm.alike (fun _ _ _ _ h9 => vk_R.warm hWm h9) (fun k hk => hI.2.2.2.1 k (Nat.lt_of_lt_of_le hk hNR))
  have key : va_Run p l e R s m args below meth c H locs (h.length - n0) (ix_sz h - s0) (h1.length - h.length) (ix_sz h1 - ix_sz h) (F0 m pc ls (st.map (ix_v ad))) (rest.map (ix_v ad)) (ix_QQ P D cA ad ro h h1 v (va_A (ix_w ad cA (ix_NR P) h) H.size) (as.map (ix_v ad)).toArray) (va_A (ix_w ad cA (ix_NR P) h) H.size) → W p l e R s m args below meth c H locs (h.length - n0) (ix_sz h - s0) Q (F0 m pc ls (st.map (ix_v ad))) := fun hr9 => by
    refine ix_after hr9 hI.2.2.1 hA1 hA1 (fun _ _ _ _ hq => hq.2) (fun v' st0 t H1 locs1 e0 e1 hQ hS1 => ?_)
    obtain ⟨⟨ad1, ho, hP1, hD1, hag, hwf1, htk⟩, -⟩ := hQ
    obtain rfl : v' = v.map (ix_v ad1) := by
      injection ho
    refine kk.at (ad := ad1) ⟨by rw [← e1]; exact hP1, hD1.weaken (fun k q _ h9 => hA1 _ h9), hS1, fun k hk => (hag k (Nat.lt_of_lt_of_le hk hn9)).trans (hI.2.2.2.1 k hk), htk, hNR, Nat.le_trans hn9 hgm.1, Nat.le_trans hs9 hgm.2⟩ (hL.ad hag hw.1) ⟨fun x hx => (hw.1 x hx).mono hgm.1, fun x hx => (List.mem_append.mp hx).elim (hwf1.2.1 x) (fun g => (hwrest x g).mono hgm.1), hwf1.2.2⟩ ?_ (by have := hgm.1; omega) (by have := hgm.2; omega)
    rw [List.map_append, ix_vs_ad hag hwrest]
    cases v <;> rfl
  have hrm : (ix_rm d' h h1).frames + 1 ≤ R.frames ∧ 8 + (me.2.2.2.1 + 11) + (ix_rm d' h h1).locals ≤ R.locals := by
    obtain ⟨-, -, r3, r4⟩ := hR
    have e1 : (ix_rm d' h h1).frames = d' + 9 := rfl
    have e2 : (ix_rm d' h h1).locals = 60 * (d' + 4) := rfl
    rw [e1, e2]
    exact ⟨r3, ix_room_l hmax r4⟩
  have hfit : h.length - n0 + (h1.length - h.length) ≤ R.cells ∧ ix_sz h - s0 + (ix_sz h1 - ix_sz h) ≤ R.slots := by
    have := hgm.1
    have := hgm.2
    obtain ⟨r1, r2, -, -⟩ := hR
    exact ⟨by omega, by omega⟩
  have hmon : 2 * (F0 m pc ls (st.map (ix_v ad))).monitorRoom + ((rest.map (ix_v ad)).map fun v => v.category).sum ≤ 8 := by
    rw [ix_cats]
    show 2 * 0 + _ ≤ 8
    omega
  have hCF : CallFix p m c mi.2.2.1 mi.2.2.2.1 s args (ix_WL P) own := ⟨hx, hb, hml, hown, hts⟩
  have hblind : FrameBlind (va_Pc (as.map (ix_v ad)) (ix_B P D cA ad ro h (ix_en me.2.2.2.1 as) H.size)) := ix_B.blind
  rcases hins with ⟨rfl, rfl⟩ | ⟨rfl, rfl⟩ | ⟨rfl, rfl⟩
  · -- virtual
    have hk : kx.1 = 0 ∨ kx.1 = 3 ∨ kx.1 = 6 ∨ kx.1 = 9 := by omega
    have hne1 : ¬ kx.1 % 3 = 1 := by omega
    obtain ⟨o, as', rfl, his⟩ := hrec.resolve_left hne1
    obtain ⟨hrcv, cC, hat⟩ := ix_recv X0 hI his
    have hnh : me.2.2.2.2.2.2.2.2 = [] := by
      have h10 : ¬ kx.1 = 10 := by omega
      simpa [h10] using v8
    have hwM : ix_wM me = .code me.1 me.2.2.1 me.2.2.2.1 me.2.2.2.2.1 := by
      unfold ix_wM
      rw [if_pos hnh]
    rw [hwM] at hcode hws hMet
    have hpar : ∀ sig, parseMethodDescriptor me.1.desc = some sig → (as'.map (ix_v ad)).length = sig.parameters.length := fun sig hs => by
      rw [if_neg hne1] at v4
      rw [← ix_params v4 sig hs, List.length_map, ← hlen]
      rfl
    have hstk : (F0 m pc ls (st.map (ix_v ad))).stack = (as'.map (ix_v ad)).reverse ++ .ref (ad o) :: rest.map (ix_v ad) := by
      show st.map (ix_v ad) = _
      rw [hst]
      simp [ix_v]
    rcases hk with hk | hk | hk | hk
    · have e6 : kx.1 ≠ 6 ∧ kx.1 ≠ 8 ∧ kx.1 < 3 := by omega
      rw [if_neg e6.1, if_neg e6.2.1, if_neg (show ¬ kx.1 = 9 by omega), if_pos (Or.inl e6.2.2), if_pos (by omega)] at hwC
      exact key (va_runV (C := kx.2.2.1) (As := as'.map (ix_v ad)) (b := ad o) hCF hMet ⟨⟨rfl, rfl, hrm.1, hrm.2, hws, List.mem_cons_self, hcode, hini9, ⟨v2, v3⟩, hpar, hts _ (hwC _ (by simp))⟩, hts _ (hwC _ (by simp)), hts _ (hwC _ (by simp))⟩ ⟨hblind, hrcv, hPre⟩ rfl rfl hL.2.1 hstk hmon hd hfit)
    · have e6 : kx.1 ≠ 6 ∧ kx.1 ≠ 8 ∧ ¬ (kx.1 < 3 ∨ kx.1 = 10) := by omega
      rw [if_neg e6.1, if_neg e6.2.1, if_neg (show ¬ kx.1 = 9 by omega), if_neg e6.2.2, if_pos (by omega)] at hwC
      exact key (va_runVN (C := kx.2.2.1) (host := kx.2.2.2) (As := as'.map (ix_v ad)) (b := ad o) hCF hMet ⟨⟨⟨rfl, rfl, hrm.1, hrm.2, hws, List.mem_cons_self⟩, hcode, hini9, ⟨v2, v3⟩, hpar, hts _ (hwC _ (by simp))⟩, hts _ (hwC _ (by simp)), hts _ (hwC _ (by simp))⟩ ⟨hblind, hrcv, hPre⟩ rfl rfl hL.2.1 hstk hmon hd hfit)
    · rw [if_pos hk] at hwC
      have i1 := hts _ (hwC (.instanceMethod me.1) (by simp))
      exact key (va_runU (C := kx.2.2.1) (owner := me.1.cls) (x := me.1) (As := as'.map (ix_v ad)) (b := ad o) hCF hMet ⟨⟨rfl, rfl, hrm.1, hrm.2, hws, List.mem_cons_self⟩, hcode, hini9, ⟨v2, v3⟩, hpar, hts _ (hwC _ (by simp)), hts _ (hwC _ (by simp)), va_Decl.of i1 hcode, hts _ (hwC _ (by simp)), i1⟩ ⟨hblind, hrcv, hPre⟩ rfl rfl hL.2.1 hstk hmon hd hfit)
    · rw [if_neg (show ¬ kx.1 = 6 by omega), if_neg (show ¬ kx.1 = 8 by omega), if_pos hk] at hwC
      obtain ⟨⟨u1, u2⟩, u3⟩ := v11.resolve_left (by omega)
      obtain ⟨me9, hm9, hx9⟩ := List.any_eq_true.mp u3
      simp only [Bool.and_eq_true, decide_eq_true_eq] at hx9
      have hc9 := hts _ (ix_wMin hm9)
      unfold ix_wM at hc9
      rw [if_pos hx9.2, hx9.1] at hc9
      have i1 := hts _ (hwC (.instanceMethod me.1) (by simp))
      have i2 := hts _ (hwC (.instanceMethod ⟨kx.2.2.2, me.1.name, me.1.desc⟩) (by simp))
      exact key (va_runU (C := kx.2.2.1) (owner := kx.2.2.2) (x := ⟨kx.2.2.2, me.1.name, me.1.desc⟩) (As := as'.map (ix_v ad)) (b := ad o) hCF hMet ⟨⟨rfl, rfl, hrm.1, hrm.2, hws, List.mem_cons_self⟩, hcode, hini9, ⟨u1, u2⟩, hpar, hts _ (hwC _ (by simp)), hts _ (hwC _ (by simp)), va_Decl.of i2 hc9, hts _ (hwC _ (by simp)), i1⟩ ⟨hblind, hrcv, hPre⟩ rfl rfl hL.2.1 hstk hmon hd hfit)
  · -- static
    have hk : kx.1 = 1 ∨ kx.1 = 4 ∨ kx.1 = 10 := by omega
    have hpar : ∀ sig, parseMethodDescriptor me.1.desc = some sig → (as.map (ix_v ad)).length = sig.parameters.length := fun sig hs => by
      rw [if_pos hk3] at v4
      rw [← ix_params v4 sig hs, List.length_map, ← hlen]
    have hstk : (F0 m pc ls (st.map (ix_v ad))).stack = (as.map (ix_v ad)).reverse ++ rest.map (ix_v ad) := by
      show st.map (ix_v ad) = _
      rw [hst]
      simp
    have e6 : kx.1 ≠ 6 ∧ kx.1 ≠ 8 ∧ ¬ kx.1 % 3 = 0 := by omega
    rw [if_neg e6.1, if_neg e6.2.1, if_neg (show ¬ kx.1 = 9 by omega), if_neg e6.2.2, if_pos hk3] at hwC
    have i1 := hts _ (hwC (.static me.1) (by simp))
    by_cases h10 : kx.1 = 10
    · have hnh : me.2.2.2.2.2.2.2.2 ≠ [] := by simpa [h10] using v8
      have hwM : ix_wM me = .codeWith me.1 me.2.2.1 me.2.2.2.1 me.2.2.2.2.1 me.2.2.2.2.2.2.2.2 := by
        unfold ix_wM
        rw [if_neg hnh]
      rw [hwM] at hcode hws hMet
      rw [if_pos (Or.inr h10)] at hwC
      exact key (vx_runSW (As := as.map (ix_v ad)) hCF hMet ⟨⟨rfl, rfl, hrm.1, hrm.2, hws, List.mem_cons_self⟩, hcode, hini9, ⟨v2, v3⟩, hpar, hts _ (hwC _ (by simp)), i1⟩ ⟨hblind, hPre⟩ rfl rfl hL.2.1 hstk hmon hd hfit)
    · have hnh : me.2.2.2.2.2.2.2.2 = [] := by simpa [h10] using v8
      have hwM : ix_wM me = .code me.1 me.2.2.1 me.2.2.2.1 me.2.2.2.2.1 := by
        unfold ix_wM
        rw [if_pos hnh]
      rw [hwM] at hcode hws hMet
      by_cases hlt : kx.1 < 3
      · rw [if_pos (Or.inl hlt)] at hwC
        exact key (va_runS (As := as.map (ix_v ad)) hCF hMet ⟨⟨rfl, rfl, hrm.1, hrm.2, hws, List.mem_cons_self, hcode, hini9, ⟨v2, v3⟩, hpar, hts _ (hwC _ (by simp))⟩, i1⟩ ⟨hblind, hPre⟩ rfl rfl hL.2.1 hstk hmon hd hfit)
      · rw [if_neg (by omega)] at hwC
        exact key (va_runSN (host := kx.2.2.2) (As := as.map (ix_v ad)) hCF hMet ⟨⟨⟨rfl, rfl, hrm.1, hrm.2, hws, List.mem_cons_self⟩, hcode, hini9, ⟨v2, v3⟩, hpar, hts _ (hwC _ (by simp))⟩, i1, trivial⟩ ⟨hblind, hPre⟩ rfl rfl hL.2.1 hstk hmon hd hfit)
  · -- special
    have hk : kx.1 = 2 ∨ kx.1 = 5 ∨ kx.1 = 8 := by omega
    have hne1 : ¬ kx.1 % 3 = 1 := by omega
    have hne0 : ¬ kx.1 % 3 = 0 := by omega
    obtain ⟨o, as', rfl, his⟩ := hrec.resolve_left hne1
    obtain ⟨hrcv, cC, hat⟩ := ix_recv X0 hI his
    have hnh : me.2.2.2.2.2.2.2.2 = [] := by
      have h10 : ¬ kx.1 = 10 := by omega
      simpa [h10] using v8
    have hwM : ix_wM me = .code me.1 me.2.2.1 me.2.2.2.1 me.2.2.2.2.1 := by
      unfold ix_wM
      rw [if_pos hnh]
    rw [hwM] at hcode hws hMet
    have hpar : ∀ sig, parseMethodDescriptor me.1.desc = some sig → (as'.map (ix_v ad)).length = sig.parameters.length := fun sig hs => by
      rw [if_neg hne1] at v4
      rw [← ix_params v4 sig hs, List.length_map, ← hlen]
      rfl
    have hstk : (F0 m pc ls (st.map (ix_v ad))).stack = (as'.map (ix_v ad)).reverse ++ .ref (ad o) :: rest.map (ix_v ad) := by
      show st.map (ix_v ad) = _
      rw [hst]
      simp [ix_v]
    rcases hk with hk | hk | hk
    · obtain ⟨n1, n2⟩ := v6.resolve_left (by omega)
      rw [n2] at hcode hws hMet
      have e6 : kx.1 ≠ 6 ∧ kx.1 ≠ 8 ∧ kx.1 < 3 := by omega
      rw [if_neg e6.1, if_neg e6.2.1, if_neg (show ¬ kx.1 = 9 by omega), if_pos (Or.inl e6.2.2), if_neg hne0, if_neg hne1] at hwC
      exact key (va_runI (As := as'.map (ix_v ad)) (b := ad o) hCF hMet ⟨⟨rfl, rfl, hrm.1, hrm.2, hws, List.mem_cons_self, hcode, hini9, ⟨v2, v3⟩, hpar, hts _ (hwC _ (by simp))⟩, n1, hts _ (hwC _ (by simp))⟩ ⟨hblind, hPre⟩ rfl rfl hL.2.1 hstk hmon hd hfit)
    · obtain ⟨n1, n2⟩ := v6.resolve_left (by omega)
      rw [n2] at hcode hws hMet
      have e6 : kx.1 ≠ 6 ∧ kx.1 ≠ 8 ∧ ¬ (kx.1 < 3 ∨ kx.1 = 10) := by omega
      rw [if_neg e6.1, if_neg e6.2.1, if_neg (show ¬ kx.1 = 9 by omega), if_neg e6.2.2, if_neg hne0, if_neg hne1] at hwC
      exact key (va_runIN (host := kx.2.2.2) (As := as'.map (ix_v ad)) (b := ad o) hCF hMet ⟨⟨⟨rfl, rfl, hrm.1, hrm.2, hws, List.mem_cons_self⟩, hcode, hini9, ⟨v2, v3⟩, hpar, hts _ (hwC _ (by simp))⟩, n1, hts _ (hwC _ (by simp))⟩ ⟨hblind, hPre⟩ rfl rfl hL.2.1 hstk hmon hd hfit)
    · have e6 : kx.1 ≠ 6 := by omega
      rw [if_neg e6, if_pos hk] at hwC
      have hnm : me.1.name ≠ "<init>" := v9 hk
      exact key (va_runSU (C := kx.2.2.1) (As := as'.map (ix_v ad)) (b := ad o) hat hCF hMet ⟨⟨rfl, rfl, hrm.1, hrm.2, hws, List.mem_cons_self⟩, hts _ (hwC _ (by simp)), hts _ (hwC _ (by simp)), hts _ (hwC _ (by simp)), hts _ (hwC _ (by simp)), hini9, hcode, hnm, hpar⟩ ⟨hblind, hrcv, hPre⟩ rfl rfl hL.2.1 hstk hmon hd hfit)

end IXH
