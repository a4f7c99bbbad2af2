/-! RUNS of the small machine are the JVM's. -/
section IXH
variable {P : ix_P} {mi : ix_M} {own : String} {D : va_G} {ad0 : Nat → Nat} {cA : Nat → ClassId} {A : Nat → Prop} {ro : ix_H} {p : Program} {l : Launch} {e : Env} {R : Room} {s : State} {m : MethodId} {args : Array Value} {below : List Frame} {meth : Method} {c : Code} {Q : State → Prop} {n0 s0 pc pc' len nL : Nat} {lv lv' : ix_L} {st st' : List Value} {h h' : ix_H} {ad : Nat → Nat} {H H1 : Heap} {locs locs1 : List Loc} {ls : Array Slot} {Qc : Array Value → State → Outcome → State → Prop} {XC : String → State → State → Prop}
set_option maxHeartbeats 4000000 in
theorem ix_step {ins : Instr} (X : ix_X P mi own D ad0 cA A ro p s m args meth c) (hd : decode mi.2.2.1 pc = .ok (ins, len)) (q : ix_s1 P mi pc lv st h len ins = some (.inl (pc', lv', st', h'))) (hR : h'.length - n0 ≤ R.cells ∧ ix_sz h' - s0 ≤ R.slots ∧ 1 ≤ R.frames ∧ 60 ≤ R.locals) (k : ix_W P D ad0 cA A ro p l e R s m args below meth c Q n0 s0 mi.2.2.2.1 pc' lv' st' h') : ix_W P D ad0 cA A ro p l e R s m args below meth c Q n0 s0 mi.2.2.2.1 pc lv st h := by
  cases ins
  case iconst a0 => exact ix_p_iconst X hd q k
  case bipush a0 => exact ix_p_bipush X hd q k
  case sipush a0 => exact ix_p_sipush X hd q k
  case lconst a0 => exact ix_p_lconst X hd q k
  case aconst_null => exact ix_p_aconst_null X hd q k
  case dconst a0 => exact ix_p_dconst X hd q k
  case ldc a0 => exact ix_p_ldc X hd q k
  case ldc_w a0 => exact ix_p_ldc_w X hd q k
  case ldc2_w a0 => exact ix_p_ldc2_w X hd q k
  case iload a0 => exact ix_p_iload X hd q k
  case iload_n a0 => exact ix_p_iload_n X hd q k
  case lload a0 => exact ix_p_lload X hd q k
  case lload_n a0 => exact ix_p_lload_n X hd q k
  case dload a0 => exact ix_p_dload X hd q k
  case dload_n a0 => exact ix_p_dload_n X hd q k
  case aload a0 => exact ix_p_aload X hd q k
  case aload_n a0 => exact ix_p_aload_n X hd q k
  case istore a0 => exact ix_p_istore X hd q k
  case istore_n a0 => exact ix_p_istore_n X hd q k
  case astore a0 => exact ix_p_astore X hd q k
  case astore_n a0 => exact ix_p_astore_n X hd q k
  case lstore a0 => exact ix_p_lstore X hd q k
  case lstore_n a0 => exact ix_p_lstore_n X hd q k
  case iinc a0 a1 => exact ix_p_iinc X hd q k
  case pop => exact ix_p_pop X hd q k
  case dup => exact ix_p_dup X hd q k
  case dup_x1 => exact ix_p_dup_x1 X hd q k
  case dup2 => exact ix_p_dup2 X hd q k
  case iadd => exact ix_p_iadd X hd q k
  case isub => exact ix_p_isub X hd q k
  case imul => exact ix_p_imul X hd q k
  case iand => exact ix_p_iand X hd q k
  case ior => exact ix_p_ior X hd q k
  case ixor => exact ix_p_ixor X hd q k
  case ishl => exact ix_p_ishl X hd q k
  case ishr => exact ix_p_ishr X hd q k
  case iushr => exact ix_p_iushr X hd q k
  case idiv => exact ix_p_idiv X hd q k
  case irem => exact ix_p_irem X hd q k
  case ineg => exact ix_p_ineg X hd q k
  case i2d => exact ix_p_i2d X hd q k
  case i2l => exact ix_p_i2l X hd q k
  case i2b => exact ix_p_i2b X hd q k
  case i2c => exact ix_p_i2c X hd q k
  case l2i => exact ix_p_l2i X hd q k
  case ladd => exact ix_p_ladd X hd q k
  case lmul => exact ix_p_lmul X hd q k
  case lcmp => exact ix_p_lcmp X hd q k
  case dcmp a0 => exact ix_p_dcmp X hd q k
  case ddiv => exact ix_p_ddiv X hd q k
  case goto a0 => exact ix_p_goto X hd q k
  case ifCond a0 a1 => exact ix_p_ifCond X hd q k
  case if_icmp a0 a1 => exact ix_p_if_icmp X hd q k
  case ifnull a0 => exact ix_p_ifnull X hd q k
  case ifnonnull a0 => exact ix_p_ifnonnull X hd q k
  case tableswitch a0 a1 a2 a3 => exact ix_p_tableswitch X hd q k
  case lookupswitch a0 a1 => exact ix_p_lookupswitch X hd q k
  case iaload => exact ix_p_iaload X hd q hR k
  case baload => exact ix_p_baload X hd q hR k
  case laload => exact ix_p_laload X hd q hR k
  case aaload => exact ix_p_aaload X hd q hR k
  case arraylength => exact ix_p_arraylength X hd q hR k
  case iastore => exact ix_p_iastore X hd q hR k
  case lastore => exact ix_p_lastore X hd q hR k
  case bastore => exact ix_p_bastore X hd q hR k
  case aastore => exact ix_p_aastore X hd q hR k
  case getfield i => exact ix_p_getfield X hd q hR k
  case putfield i => exact ix_p_putfield X hd q hR k
  case newarray a => exact ix_p_newarray X hd q hR k
  case new i => exact ix_p_new X hd q hR k
  case getstatic i => exact ix_p_getstatic X hd q hR k
  case anewarray i => exact ix_p_anewarray X hd q hR k
  case checkcast i => exact ix_p_checkcast X hd q hR k
  case invokespecial i => exact ix_p_objinit X hd q hR k
  case invokestatic i => exact ix_p_arraycopy X hd q hR k
  case invokevirtual i => exact ix_p_clone X hd q hR k
  case multianewarray i j => exact ix_p_multianewarray X hd q hR k
  all_goals first
    | (simp [ix_s1] at q; done)
    | (simp only [ix_s1, ix_rt] at q; repeat' (split at q)); all_goals (first | (cases q; done))
theorem ix_dc_mem {i : Instr} {k : Nat} : ∀ {l : List (Nat × Instr × Nat)}, ix_dc l pc = some (i, k) → (pc, i, k) ∈ l
  | [], q => by cases q
  | (a, b, c) :: r, q => by
    unfold ix_dc at q
    split at q
    · next e9 =>
      cases q
      rw [e9]
      exact List.mem_cons_self
    · exact List.mem_cons_of_mem _ (ix_dc_mem q)
theorem ix_dec {ins : Instr} (hV : ix_V P = true) (hm : mi ∈ ix_MT P) (q : ix_dc mi.2.2.2.2.2.2.2.1 pc = some (ins, len)) : decode mi.2.2.1 pc = .ok (ins, len) := by
  have h1 := ix_mM hV hm
  unfold ix_vM at h1
  split at h1
  · simp only [Bool.and_eq_true] at h1
    have h2 := h1.2
    unfold ix_vD at h2
    have h3 := List.all_eq_true.mp h2 _ (ix_dc_mem q)
    simp only at h3
    split at h3
    · next y hy =>
      rw [hy, of_decide_eq_true h3]
    · cases h3
  · cases h1

/-- what holds when a method has thrown -/
def ix_XQ (P : ix_P) (D : va_G) (cA : Nat → ClassId) (ad : Nat → Nat) (ro h h' : ix_H) (A1 : Nat → Prop) (E0 : String) : String → State → State → Prop := fun E st t => E = E0 ∧
  (∃ ad1 : Nat → Nat, va_P D (ix_CL P) (ix_w ad1 cA (ix_NR P) h') t.heap ∧ va_D A1 (ix_w ad1 cA (ix_NR P) h') ∧ (∀ k, k < h.length → ad1 k = ad k) ∧ (∀ x ∈ h', ix_wc h'.length x) ∧ h'.take (ix_NR P) = ro) ∧ va_F A1 st t
def ix_CX (P : ix_P) (l : Launch) (n : Nat) : Prop := ∀ (d mid : Nat) (mi : ix_M) (vs : List Value) (h h' : ix_H) (ci : Nat) (row : vw_C) (D : va_G) (ad : Nat → Nat) (cA : Nat → ClassId) (ro : ix_H) (sz : Nat), ix_V P = true → (ix_MT P)[mid]? = some mi → mi.2.2.2.2.2.2.2.2 = [] → (ix_sl vs).length ≤ mi.2.2.2.1 → ix_ex P n d mid 0 (ix_en mi.2.2.2.1 vs) [] h = some (.inr ci, h') → (ix_CL P)[ci]? = some row →
  vx_Met l mi.1 (ix_wM mi :: ix_WL P) (ix_rm d h h') (va_Pc (vs.map (ix_v ad)) (ix_B P D cA ad ro h (ix_en mi.2.2.2.1 vs) sz)) (fun _ _ _ _ => False) (ix_XQ P D cA ad ro h h' (va_A (ix_w ad cA (ix_NR P) h) sz) row.1) (h'.length - h.length) (ix_sz h' - ix_sz h) (va_A (ix_w ad cA (ix_NR P) h) sz)
theorem ix_LR.kill {i N w9 : Nat} (hL : ix_LR ad nL lv ls) (hw : ∀ v, some v ∈ lv → ix_wv N v) {ls' : Array Slot} (h8 : lv_has ls' nL ((i, .ref w9) :: (ix_al ad lv).filter (fun q => !(q.1 == i) && !(q.1 + 1 == i && q.2.category == 2)))) : ix_LR ad nL ((ix_st i .null lv).set i none) ls' := by
  have hag : ∀ k, k < N → ix_up ad N w9 k = ad k := fun k hk => ix_up_lt hk
  have hL2 := hL.ad hag hw
  have e1 : ix_al (ix_up ad N w9) lv = ix_al ad lv := by
    unfold ix_al
    congr 1
    funext j
    split
    · next v hv => rw [ix_v_ad hag (hw v (List.mem_of_getElem? hv))]
    · rfl
  have h7 : ix_LR (ix_up ad N w9) nL (ix_st i (.ref N) lv) ls' := hL2.st (v := .ref N) (by rw [e1]; show lv_has ls' nL ((i, .ref (ix_up ad N w9 N)) :: _); rw [ix_up_eq]; exact h8)
  have e2 : (ix_st i .null lv).set i none = (ix_st i (.ref N) lv).set i none := by
    unfold ix_st
    rw [List.set_set, List.set_set]
  rw [e2]
  refine ⟨by rw [List.length_set]; exact h7.1, h7.2.1, h7.2.2.1, fun j v hj => ?_⟩
  by_cases hji : i = j
  · subst hji
    rw [List.getElem?_set] at hj
    split at hj
    · split at hj <;> cases hj
    · next hne => exact absurd rfl hne
  · rw [List.getElem?_set_ne hji] at hj
    have h6 := h7.2.2.2 j v hj
    have h5 : some v ∈ lv := by
      have h4 := List.mem_of_getElem? hj
      rcases ix_st_mem h4 with rfl | h4
      · exfalso
        unfold ix_st at hj
        rw [List.getElem?_set_ne hji] at hj
        have h3 : some (Value.ref N) ∈ lv := by
          cases i with
          | zero => exact List.mem_of_getElem? hj
          | succ i0 =>
            dsimp only at hj
            split at hj
            · split at hj
              · rcases List.mem_or_eq_of_mem_set (List.mem_of_getElem? hj) with g | g
                · exact g
                · cases g
              · exact List.mem_of_getElem? hj
            · exact List.mem_of_getElem? hj
        exact Nat.lt_irrefl _ (hw _ h3)
      · exact h4
    rw [ix_v_ad hag (hw v h5)] at h6
    exact h6

/-- a throw, at its place -/
theorem ix_throw {mid ci : Nat} {ins : Instr} {row : vw_C} {hE : ix_H} {F1 : Nat → Prop} {mc ms : Nat} (hl : l.stackTraces = false) (X : ix_X P mi own D ad0 cA A ro p s m args meth c) (hV2 : ix_V2 P = true) (hmid : (ix_MT P)[mid]? = some mi) (htab : ∀ x ∈ c.exceptionTable.toList, False) (q : ix_tw P mid pc st h ins = some (.inr ci, hE)) (hrow : (ix_CL P)[ci]? = some row)
    (hR : hE.length - n0 ≤ R.cells ∧ ix_sz hE - s0 ≤ R.slots ∧ 9 ≤ R.frames ∧ 240 ≤ R.locals)
    (hmc : mc = hE.length - n0) (hms : ms = ix_sz hE - s0) (hF1 : ∀ q, A q → F1 q)
    (hX : ∀ (ad : Nat → Nat) (H1 : Heap) (locs1 : List Loc) (t : State), ix_I P D ad0 cA A ro s n0 s0 ad hE H1 locs1 → (∀ x ∈ hE, ix_wc hE.length x) → t.heap = H1 → s.vm.Alike t.vm → XC row.1 s t) :
    ix_W P D ad0 cA A ro p l e R s m args below meth c (vx_MQ below Qc XC args s mc ms F1) n0 s0 mi.2.2.2.1 pc lv st h := by
  subst hmc hms
  obtain ⟨hx, hb, hml, hr, hlocks, hon, hown, hini, hK, hts, hV, hA, hO⟩ := X
  unfold ix_tw at q
  split at q
  · next j0 =>
    split at q
    · next x hx0 =>
      obtain ⟨hst, q⟩ := Option.ite_none_right_eq_some.mp q
      cases q
      have hm := ix_fd_mem hx0
      have hw1 := ix_wXin hm
      have hv : ix_vX P (mid, pc, x) = true := by
        simp only [ix_V2, Bool.and_eq_true, List.all_eq_true] at hV2
        exact hV2.1 _ hm
      obtain ⟨ci, ik, is, ic, cls, text, names⟩ := x
      unfold ix_vX at hv
      simp only [hmid] at hv
      rw [hrow] at hv
      simp only [Bool.and_eq_true, decide_eq_true_eq, List.all_eq_true] at hv
      obtain ⟨⟨⟨⟨⟨⟨⟨⟨⟨⟨⟨⟨u1, u2⟩, u3⟩, u4⟩, u5⟩, u6⟩, d0⟩, d3⟩, d4⟩, d6⟩, d9⟩, u7⟩, u8⟩ := hv
      unfold ix_wX at hw1 u8
      simp only [hmid, hon] at hw1 u8
      obtain ⟨C, T0, N⟩ := row
      simp only at u1 u2
      subst u1 u2
      have hmem := List.mem_of_getElem? hmid
      have hKT : ∃ k, (mi.2.1, is, Value.ref k, text) ∈ ix_KT P := by
        split at u7
        · next k tx hk =>
          rw [← of_decide_eq_true u7]
          exact ⟨k, ix_fd_mem hk⟩
        · cases u7
      obtain ⟨k0, hk0⟩ := hKT
      have hstr := (hO.2.1 _ _ _ _ _ hk0 hon).2
      intro ad H locs ls hI hL hw
      obtain ⟨r1, r2, r3, r4⟩ := hR
      rw [List.length_append, List.length_singleton] at r1
      rw [ix_sz_push] at r2
      have hcs : ix_cs (.inr (ci, [])) = 6 := rfl
      rw [hcs] at r2
      have hn9 := hI.2.2.2.2.2.2
      refine vx_makeS (ci := ci) (T0 := T0) hx hb hl hown u3 u4 (hts _ (hw1 _ List.mem_cons_self)) (hts _ (hw1 _ (List.mem_cons_of_mem _ List.mem_cons_self))) hstr (fun w hw9 => hts _ (hw1 _ (List.mem_cons_of_mem _ (List.mem_cons_of_mem _ hw9)))) (fun w hw9 => u8 w hw9) hO.2.2.2.1.2.1 hO.2.2.2.1.2.2 hI.2.2.1 (by rw [hml]; exact hL.2.1) (ix_dec hV hmem d0) (ix_dec hV hmem d3) (ix_dec hV hmem d4) (ix_dec hV hmem d6) hK hI.1 hI.2.1 hA hrow (by omega) (by rw [ix_cats]; omega) (by omega) (by omega) (fun q9 H1 hP1 hD1 hS1 => ?_)
      have hI1 := hI.push (q := q9) (x := .inr (ci, [])) hw rfl hP1 hD1 hS1
      have hcell : ∃ ce : Cell, H1[q9]? = some ce ∧ ce.vm = .none ∧ s.vm.findClass C = some ce.cls := by
        have hk9 : (ix_w ad cA (ix_NR P) h ++ [(q9, (.inr (ci, []) : va_E))])[(ix_w ad cA (ix_NR P) h).length]? = some (q9, .inr (ci, [])) := by
          rw [List.getElem?_append_right (Nat.le_refl _), Nat.sub_self]
          rfl
        obtain ⟨r', h1', cell, g1, g2, g3, -⟩ := hP1 _ _ hk9
        rw [hrow] at h1'
        cases h1'
        exact ⟨cell, g1, g3, by rw [g2]; exact (hK.1 ci _ hrow).2.1⟩
      obtain ⟨ce, g1, g2, g3⟩ := hcell
      refine vx_athrow hx hb (ix_dec hV hmem d9) (vx_out (fun z hz => (htab z hz).elim) hlocks g1 g2 g3 (fun t ht hvm => hX _ _ _ t hI1 (fun y hy => ?_) ht hvm) (fun z hz => hF1 _ (hS1.2.2 z hz)) (by rw [List.length_append, List.length_singleton]; omega) (by rw [ix_sz_push, hcs]; omega))
      rw [List.length_append, List.length_singleton]
      rcases List.mem_append.mp hy with hy | hy
      · exact (hw.2.2 y hy).mono (Nat.le_succ _)
      · rw [List.mem_singleton.mp hy]
        exact fun v hv => by cases hv
    · cases q
  · cases q

set_option maxHeartbeats 2000000 in
/-- a call that throws, and is caught -/
theorem ix_callX {mid ci : Nat} {ins : Instr} {kx : ix_K} {me : ix_M} {as rest : List Value} {n d' : Nat} {h1 : ix_H} (X : ix_X P mi own D ad0 cA A ro p s m args meth c) (hV2 : ix_V2 P = true) (hmid : (ix_MT P)[mid]? = some mi) (htab : c.exceptionTable.toList = tableOf mi.2.2.2.2.2.2.2.2) (hdc : ix_dc mi.2.2.2.2.2.2.2.1 pc = some (ins, len)) (q : ix_cl P mi st h len ins = some (kx, me, as, rest)) (hC : ix_CX P l n) (hrun : ix_ex P n d' kx.2.1 0 (ix_en me.2.2.2.1 as) [] h = some (.inr ci, h1)) (hca : ix_ca P mid mi lv pc ci = some (pc', lv'))
    (hR : h1.length - n0 ≤ R.cells ∧ ix_sz h1 - s0 ≤ R.slots ∧ d' + 10 ≤ R.frames ∧ 60 * (d' + 5) ≤ R.locals) (kk : ix_W P D ad0 cA A ro p l e R s m args below meth c Q n0 s0 mi.2.2.2.1 pc' lv' [] h1) : ix_W P D ad0 cA A ro p l e R s m args below meth c Q n0 s0 mi.2.2.2.1 pc lv st h := by
  have X0 := X
  obtain ⟨hx, hb, hml, hr, hlocks, hon, hown, hini, hK, hts, hV, hA, hO⟩ := X
  have hgm := ix_ex_gm _ _ _ _ _ _ _ _ _ hrun
  unfold ix_ca at hca
  split at hca
  · next hc row hhc hrow =>
    split at hca
    · next i9 hdh =>
      obtain ⟨⟨hlt9, hnm9⟩, hca⟩ := Option.ite_none_right_eq_some.mp hca
      cases hca
      have hmH := ix_fd_mem hhc
      have hwH := ix_wHin hmH
      have hvH : ix_vH P (mid, pc, hc) = true := by
        simp only [ix_V2, Bool.and_eq_true, List.all_eq_true] at hV2
        exact hV2.2 _ hmH
      unfold ix_vH at hvH
      unfold ix_wH at hwH
      simp only [hmid, hon] at hvH hwH
      rw [hdc] at hvH
      simp only [Bool.and_eq_true, decide_eq_true_eq] at hvH
      obtain ⟨hcp, hvH⟩ := hvH
      split at hvH
      · next a b q9 cp htb =>
        rw [htb] at htab
        simp only [Bool.and_eq_true, decide_eq_true_eq] at hvH
        obtain ⟨⟨⟨⟨g0, g1⟩, g2⟩, rfl⟩, rfl⟩ := hvH
        have hi9 : ∃ i k9, ins = .invokevirtual i ∧ len = 3 ∧ ix_fd mi.2.1 i (ix_CT P) = some k9 ∧ k9.1 = 0 := by
          split at g0
          · next i hi =>
            cases hi
            split at g0
            · next k9 hk9 => exact ⟨i, k9, rfl, rfl, hk9, of_decide_eq_true g0⟩
            · cases g0
          · cases g0
        obtain ⟨i, k9, rfl, rfl, hk9, hk90⟩ := hi9
        have hd := ix_dec hV (List.mem_of_getElem? hmid) hdc
        have q2 : ix_s2 P mi st h i 0 = some (kx, me, as, rest) := by
          unfold ix_cl at q
          exact (Option.ite_none_right_eq_some.mp q).2
        have hkx : kx = k9 := by
          have q3 := q2
          unfold ix_s2 at q3
          rw [hk9] at q3
          simp only at q3
          split at q3
          · cases q3
          · exact (congrArg Prod.fst (Option.some.inj (Option.ite_none_right_eq_some.mp q3).2)).symm
        subst hkx
        obtain ⟨hm, hme, hk3, hna, hcat, hsl, hst, hlen, hrec⟩ := ix_s2_eq q2
        have hmem := List.mem_of_getElem? hme
        have hvM := ix_mM hV hmem
        have hvC := ix_mC hV hm
        have hwC := ix_wCin hm
        unfold ix_vM at hvM
        unfold ix_vC at hvC
        unfold ix_wC at hwC
        simp only at hvC hwC
        rw [hon, hme] at hvC hwC
        simp only at hvC hwC
        have hmax : me.2.2.2.1 ≤ 40 := by
          split at hvM
          · simp only [Bool.and_eq_true, decide_eq_true_eq] at hvM
            exact hvM.1.1.1.2
          · cases hvM
        simp only [Bool.and_eq_true, decide_eq_true_eq, Bool.or_eq_true, beq_iff_eq] at hvC
        obtain ⟨⟨⟨⟨⟨⟨⟨⟨⟨⟨v1, v2⟩, v3⟩, v4⟩, v5⟩, v6⟩, v9⟩, v7⟩, v8⟩, v10⟩, v11⟩ := hvC
        have hmt := ix_tailM hme v10
        have hini9 := hts _ (hwC (.initialized me.1.cls) List.mem_cons_self)
        have hcode := hts _ (ix_wMin hmt)
        have hws := ix_ws_all hts hV hmt
        intro ad H locs ls hI hL hw
        have hn9 := hI.2.2.2.2.2.2.1
        have hs9 := hI.2.2.2.2.2.2.2
        have hNR := hI.2.2.2.2.2.1
        have hne1 : ¬ kx.1 % 3 = 1 := by omega
        obtain ⟨o, as', rfl, his⟩ := hrec.resolve_left hne1
        obtain ⟨hrcv, cC, hat⟩ := ix_recv X0 hI his
        have hnh : me.2.2.2.2.2.2.2.2 = [] := by
          have h10 : ¬ kx.1 = 10 := by omega
          simpa [h10] using v8
        have hwM : ix_wM me = .code me.1 me.2.2.1 me.2.2.2.1 me.2.2.2.2.1 := by
          unfold ix_wM
          rw [if_pos hnh]
        have hMet := hC d' kx.2.1 me (.ref o :: as') h h1 ci row D ad cA ro H.size hV hme hnh hsl hrun hrow
        have hA1 : ∀ q, va_A (ix_w ad cA (ix_NR P) h) H.size q → A q := fun q hq => by
          rcases hq with ⟨k, e9, hk⟩ | hq
          · exact hI.2.1.2 k _ hk
          · exact hA q (Nat.le_trans hI.2.2.1.1 hq)
        have hwas : ∀ v ∈ Value.ref o :: as', ix_wv h.length v := fun v hv => hw.2.1 v (by rw [hst]; exact List.mem_append_left _ (List.mem_reverse.mpr hv))
        have hPre : ∀ U : State, U.heap = H → s.WarmedH U.vm → va_Pc ((Value.ref o :: as').map (ix_v ad)) (ix_B P D cA ad ro h (ix_en me.2.2.2.1 (.ref o :: as')) H.size) ((Value.ref o :: as').map (ix_v ad)).toArray U := fun U hU hWm => by
          refine ⟨rfl, by rw [hU], by rw [hU]; exact hI.1, va_K.moved hWm.alike hK, ⟨hI.2.1.1, fun _ _ _ => trivial⟩, ?_, hI.2.2.2.2.1, Nat.le_trans hNR hn9, fun v hv => hwas v (ix_en_mem hv), fun v hv => (by cases hv), hw.2.2⟩
          exact hO.gen (fun a g1 g2 => by rw [hU]; exact hI.2.2.1.2.1 a g1 g2) hA1 hWm.alike (fun _ _ _ _ h9 => vk_R.warm hWm h9) (fun k hk => hI.2.2.2.1 k (Nat.lt_of_lt_of_le hk hNR))
        have hrm : (ix_rm d' h h1).frames + 1 ≤ R.frames ∧ 8 + (me.2.2.2.1 + 11) + (ix_rm d' h h1).locals ≤ R.locals := by
          obtain ⟨-, -, r3, r4⟩ := hR
          have e1 : (ix_rm d' h h1).frames = d' + 9 := rfl
          have e2 : (ix_rm d' h h1).locals = 60 * (d' + 4) := rfl
          rw [e1, e2]
          exact ⟨r3, ix_room_l hmax r4⟩
        have hfit : h.length - n0 + (h1.length - h.length) ≤ R.cells ∧ ix_sz h - s0 + (ix_sz h1 - ix_sz h) ≤ R.slots := by
          have := hgm.1
          have := hgm.2
          obtain ⟨r1, r2, -, -⟩ := hR
          exact ⟨by omega, by omega⟩
        have hmon : 2 * (F0 m pc ls (st.map (ix_v ad))).monitorRoom + ((rest.map (ix_v ad)).map fun v => v.category).sum ≤ 8 := by
          rw [ix_cats]
          show 2 * 0 + _ ≤ 8
          omega
        have hCF : CallFix p m c mi.2.2.1 mi.2.2.2.1 s args (ix_WL P) own := ⟨hx, hb, hml, hown, hts⟩
        rw [hwM] at hcode hws hMet
        have hpar : ∀ sig, parseMethodDescriptor me.1.desc = some sig → (as'.map (ix_v ad)).length = sig.parameters.length := fun sig hs => by
          rw [if_neg hne1] at v4
          rw [← ix_params v4 sig hs, List.length_map, ← hlen]
          rfl
        have hstk : (F0 m pc ls (st.map (ix_v ad))).stack = (as'.map (ix_v ad)).reverse ++ .ref (ad o) :: rest.map (ix_v ad) := by
          show st.map (ix_v ad) = _
          rw [hst]
          simp [ix_v]
        have e6 : kx.1 ≠ 6 ∧ kx.1 ≠ 8 ∧ kx.1 < 3 := by omega
        rw [if_neg e6.1, if_neg e6.2.1, if_neg (show ¬ kx.1 = 9 by omega), if_pos (Or.inl e6.2.2), if_pos (by omega)] at hwC
        have hr9 := vx_runV (l := l) (e := e) (R := R) (below := below) (meth := meth) (locs := locs) (cells := h.length - n0) (slots := ix_sz h - s0) (C := kx.2.2.1) (As := as'.map (ix_v ad)) (b := ad o) (rest := rest.map (ix_v ad)) (g := F0 m pc ls (st.map (ix_v ad))) hCF hMet ⟨⟨rfl, rfl, hrm.1, hrm.2, hws, List.mem_cons_self, hcode, hini9, ⟨v2, v3⟩, hpar, hts _ (hwC _ (by simp))⟩, hts _ (hwC _ (by simp)), hts _ (hwC _ (by simp))⟩ ⟨ix_B.blind, hrcv, hPre⟩ rfl rfl hL.2.1 hstk hmon hd hfit
        intro T hT Xs
        rcases hr9 T hT Xs with ⟨v, st₀, t, T', L, h0, X', hL9, e1, e2, hQ, stp⟩ | ⟨qx, st₀, t, T', L, E, ce, h0, X', hL9, e1, e2, ⟨rfl, ⟨ad1, hP1, hD1, hag, hwc, htk⟩, hF⟩, hce, hcv, hcl, stp⟩
        · exact hQ.elim
        · obtain ⟨k1, k2, k3⟩ := vx_keep h0 e1 hI.2.2.1 (fun q _ => hA1 q) hA1 hL9 hF
          rw [← e1] at hP1 hce
          have hL1 := hL.ad hag hw.1
          have hcat9 : vx_W p l e R s m args below meth c T'.heap (locs ++ L) (h.length - n0 + (h1.length - h.length)) (ix_sz h - s0 + (ix_sz h1 - ix_sz h)) Q (F0 m pc ls (rest.map (ix_v ad))) qx := by
            refine vx_catch hown [] ⟨a, b, hc.1, hc.2.1⟩ [] htab (fun z hz => by cases hz) (by simp [g1, g2]) hcp (name := hc.2.2) (hts _ (hwH _ (by simp))) (by rw [hnm9]; exact hts _ (hwH _ (by simp))) hce hcv hcl ?_
            refine lv_astore hx hb (ix_dec hV (List.mem_of_getElem? hmid) hdh) hL1.has (hL.1 ▸ hlt9) rfl (fun ls' h9 => ?_)
            refine kk.at (ad := ad1) ⟨hP1, hD1.weaken (fun k q _ h9 => hA1 _ h9), k3, fun k hk => (hag k (Nat.lt_of_lt_of_le hk hn9)).trans (hI.2.2.2.1 k hk), htk, hNR, Nat.le_trans hn9 hgm.1, Nat.le_trans hs9 hgm.2⟩ (hL1.kill (N := h.length) hw.1 h9) ⟨fun x hx => ?_, fun x hx => (by cases hx), hwc⟩ rfl (by have := hgm.1; omega) (by have := hgm.2; omega)
            rcases List.mem_or_eq_of_mem_set hx with g | g
            · rcases ix_st_mem g with rfl | g
              · trivial
              · exact (hw.1 x g).mono hgm.1
            · cases g
          obtain ⟨t2, a1, b1⟩ := hcat9 T' rfl X'
          exact ⟨t2, stp.trans a1, b1⟩
      · cases hvH
    · cases hca
  · cases hca

end IXH
