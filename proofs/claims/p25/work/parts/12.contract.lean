/-! THE CONTRACT of all methods, out of the small machine's runs. -/
section IXH
variable {P : ix_P} {mi : ix_M} {own : String} {D : va_G} {ad0 : Nat → Nat} {cA : Nat → ClassId} {A : Nat → Prop} {ro : ix_H} {p : Program} {l : Launch} {e : Env} {R : Room} {s : State} {m : MethodId} {args : Array Value} {below : List Frame} {meth : Method} {c : Code} {Q : State → Prop} {n0 s0 pc pc' len nL : Nat} {lv lv' : ix_L} {st st' : List Value} {h h' : ix_H} {ad : Nat → Nat} {H H1 : Heap} {locs locs1 : List Loc} {ls : Array Slot} {Qc : Array Value → State → Outcome → State → Prop} {XC : String → State → State → Prop}
set_option maxHeartbeats 4000000 in
/-- what an end is -/
theorem ix_s1_ret {ins : Instr} {r : Option Value ⊕ Nat} {h1 : ix_H} (q : ix_s1 P mi pc lv st h len ins = some (.inr (r, h1))) : len = 1 ∧ ((ins = .return_ ∧ st = [] ∧ mi.2.2.2.2.1 = none ∧ r = .inl none) ∨ ∃ ty v, mi.2.2.2.2.1 = some ty ∧ st = [v] ∧ ix_ft ty v = true ∧ r = .inl (some v) ∧ ((ins = .ireturn ∧ ix_rk (some ty) = 1) ∨ (ins = .lreturn ∧ ix_rk (some ty) = 2) ∨ (ins = .dreturn ∧ ix_rk (some ty) = 3) ∨ (ins = .areturn ∧ ix_rk (some ty) = 4))) := by
  have go : ∀ {k : Nat}, ix_rk mi.2.2.2.2.1 = k → ix_rt mi.2.2.2.2.1 st h = some (.inr (r, h1)) → ∃ ty v, mi.2.2.2.2.1 = some ty ∧ st = [v] ∧ ix_ft ty v = true ∧ r = .inl (some v) ∧ ix_rk (some ty) = k := by
    intro k hk q
    cases hty : mi.2.2.2.2.1 with
    | none =>
      rw [hty] at q
      simp [ix_rt] at q
    | some ty =>
      rw [hty] at q hk
      cases st with
      | nil => simp [ix_rt] at q
      | cons v st2 =>
        cases st2 with
        | cons w st3 => simp [ix_rt] at q
        | nil =>
          simp only [ix_rt] at q
          split at q
          · next hft =>
            cases q
            exact ⟨ty, v, rfl, rfl, hft, rfl, hk⟩
          · cases q
  unfold ix_s1 at q
  split at q
  all_goals try simp only [ix_i, ix_ii, ix_l, ix_ll, ix_d, ix_dd, ix_r, ix_a, ix_ir, ix_iir, ix_lir, ix_rir, ix_vr, ix_ob, ix_ai, ix_all, ix_aq, ix_ar, ix_ld, ix_sv, ix_sv2, ix_br, ix_cy] at q
  all_goals repeat' (split at q)
  all_goals first
    | exact (ix_go_r q).elim
    | (cases q; done)
    | (next hc => obtain ⟨ty, v, g1, g2, g3, g4, g5⟩ := go hc.2 q; exact ⟨hc.1, Or.inr ⟨ty, v, g1, g2, g3, g4, Or.inl ⟨rfl, g5⟩⟩⟩)
    | (next hc => obtain ⟨ty, v, g1, g2, g3, g4, g5⟩ := go hc.2 q; exact ⟨hc.1, Or.inr ⟨ty, v, g1, g2, g3, g4, Or.inr (Or.inl ⟨rfl, g5⟩)⟩⟩)
    | (next hc => obtain ⟨ty, v, g1, g2, g3, g4, g5⟩ := go hc.2 q; exact ⟨hc.1, Or.inr ⟨ty, v, g1, g2, g3, g4, Or.inr (Or.inr (Or.inl ⟨rfl, g5⟩))⟩⟩)
    | (next hc => obtain ⟨ty, v, g1, g2, g3, g4, g5⟩ := go hc.2 q; exact ⟨hc.1, Or.inr ⟨ty, v, g1, g2, g3, g4, Or.inr (Or.inr (Or.inr ⟨rfl, g5⟩))⟩⟩)
    | (next hc => cases q; exact ⟨hc.1, Or.inl ⟨rfl, hc.2.1, hc.2.2, rfl⟩⟩)
theorem ix_path {N mid d : Nat} {r : Option Value ⊕ Nat} {hE : ix_H} (hC : ∀ n, n < N → ix_CC P l n ∧ ix_CX P l n) (X : ix_X P mi own D ad0 cA A ro p s m args meth c) (hV2 : ix_V2 P = true) (hmid : (ix_MT P)[mid]? = some mi) (htab : c.exceptionTable.toList = tableOf mi.2.2.2.2.2.2.2.2)
    (hR : hE.length - n0 ≤ R.cells ∧ ix_sz hE - s0 ≤ R.slots ∧ d + 9 ≤ R.frames ∧ 60 * (d + 4) ≤ R.locals)
    (K : ∀ (pc : Nat) (lv : ix_L) (st : List Value) (h : ix_H) (ins : Instr) (len : Nat), decode mi.2.2.1 pc = .ok (ins, len) → (ix_tw P mid pc st h ins = some (r, hE) ∨ ix_s1 P mi pc lv st h len ins = some (.inr (r, hE))) → ix_W P D ad0 cA A ro p l e R s m args below meth c Q n0 s0 mi.2.2.2.1 pc lv st h) :
    ∀ (n : Nat), n ≤ N → ∀ (pc : Nat) (lv : ix_L) (st : List Value) (h : ix_H), ix_ex P n d mid pc lv st h = some (r, hE) → ix_W P D ad0 cA A ro p l e R s m args below meth c Q n0 s0 mi.2.2.2.1 pc lv st h
  | 0, _, _, _, _, _, q => by cases q
  | n + 1, hn, pc, lv, st, h, q => by
    have hV := X.2.2.2.2.2.2.2.2.2.2.1
    unfold ix_ex at q
    rw [hmid] at q
    simp only at q
    split at q
    · cases q
    · next ins len hdc =>
      have hd := ix_dec hV (List.mem_of_getElem? hmid) hdc
      split at q
      · next r0 hr0 =>
        cases q
        exact K pc lv st h ins len hd (Or.inl hr0)
      · split at q
        · next kx me as rest hcl =>
          split at q
          · cases q
          · next d' =>
            split at q
            · next v h1 hrun =>
              have hg := ix_ex_gm _ _ _ _ _ _ _ _ _ q
              exact ix_call X hd hcl (hC n hn).1 hrun ⟨by have := hg.1; omega, by have := hg.2; omega, by omega, by omega⟩ (ix_path hC X hV2 hmid htab hR K n (Nat.le_of_succ_le hn) _ _ _ _ q)
            · next x h1 hrun =>
              split at q
              · next pc' lv' hca =>
                have hg := ix_ex_gm _ _ _ _ _ _ _ _ _ q
                exact ix_callX X hV2 hmid htab hdc hcl (hC n hn).2 hrun hca ⟨by have := hg.1; omega, by have := hg.2; omega, by omega, by omega⟩ (ix_path hC X hV2 hmid htab hR K n (Nat.le_of_succ_le hn) _ _ _ _ q)
              · cases q
            · cases q
        · split at q
          · next pc' lv' st' h1 hs1 =>
            have hg := ix_ex_gm _ _ _ _ _ _ _ _ _ q
            exact ix_step X hd hs1 ⟨by have := hg.1; omega, by have := hg.2; omega, by omega, by omega⟩ (ix_path hC X hV2 hmid htab hR K n (Nat.le_of_succ_le hn) _ _ _ _ q)
          · next r0 hs1 =>
            cases q
            exact K pc lv st h ins len hd (Or.inr hs1)
          · cases q
theorem ix_sl_args : ∀ (vs : List Value) (k i : Nat) (v : Value), (ix_sl vs)[i]? = some (some v) → (k + i, v) ∈ lv_args k vs
  | [], k, i, v, hq => by simp [ix_sl] at hq
  | a :: vs, k, i, v, hq => by
    have e1 : ix_sl (a :: vs) = (if a.category = 2 then [some a, none] else [some a]) ++ ix_sl vs := by simp [ix_sl]
    rw [e1] at hq
    unfold lv_args
    by_cases hc : a.category = 2
    · rw [if_pos hc] at hq ⊢
      cases i with
      | zero => cases hq; exact List.mem_cons_self
      | succ i =>
        cases i with
        | zero => cases hq
        | succ i =>
          have h9 := ix_sl_args vs (k + 2) i v (by simpa using hq)
          rw [show k + (i + 1 + 1) = k + 2 + i by omega]
          exact List.mem_cons_of_mem _ h9
    · rw [if_neg hc] at hq ⊢
      cases i with
      | zero => cases hq; exact List.mem_cons_self
      | succ i =>
        have h9 := ix_sl_args vs (k + 1) i v (by simpa using hq)
        rw [show k + (i + 1) = k + 1 + i by omega]
        exact List.mem_cons_of_mem _ h9
theorem ix_sl_len (ad : Nat → Nat) : ∀ vs : List Value, (lg_sl (vs.map (ix_v ad))).length = (ix_sl vs).length
  | [] => rfl
  | a :: vs => by
    have e1 : ix_sl (a :: vs) = (if a.category = 2 then [some a, none] else [some a]) ++ ix_sl vs := by simp [ix_sl]
    have e2 : lg_sl ((a :: vs).map (ix_v ad)) = (if a.category = 2 then [.val (ix_v ad a), .second] else [.val (ix_v ad a)]) ++ lg_sl (vs.map (ix_v ad)) := by simp [lg_sl, ix_v_cat]
    rw [e1, e2, List.length_append, List.length_append, ix_sl_len ad vs]
    congr 1
    split <;> rfl
theorem ix_args_map (ad : Nat → Nat) : ∀ (vs : List Value) (k : Nat), lv_args k (vs.map (ix_v ad)) = (lv_args k vs).map (fun q => (q.1, ix_v ad q.2))
  | [], k => rfl
  | a :: vs, k => by
    show (k, ix_v ad a) :: lv_args (if (ix_v ad a).category = 2 then k + 2 else k + 1) (vs.map (ix_v ad)) = (k, ix_v ad a) :: (lv_args (if a.category = 2 then k + 2 else k + 1) vs).map _
    rw [ix_v_cat, ix_args_map ad vs]
/-- a method's locals at its start -/
theorem ix_LR.entry {n : Nat} {vs : List Value} (hsl : (ix_sl vs).length ≤ n) : ix_LR ad n (ix_en n vs) ((lg_sl (vs.map (ix_v ad)) ++ List.replicate (n - (lg_sl (vs.map (ix_v ad))).length) Slot.unset).toArray) := by
  have h1 := lv_entry (vs.map (ix_v ad)) (n := n) (by rw [ix_sl_len]; exact hsl)
  refine ⟨?_, h1.1, h1.2.1, fun i v hv => ?_⟩
  · unfold ix_en
    rw [List.length_append, List.length_replicate]
    omega
  · unfold ix_en at hv
    have h2 : (ix_sl vs)[i]? = some (some v) := by
      by_cases hi : i < (ix_sl vs).length
      · rw [List.getElem?_append_left hi] at hv
        exact hv
      · rw [List.getElem?_append_right (by omega), List.getElem?_replicate] at hv
        split at hv <;> cases hv
    have h3 := ix_sl_args vs 0 i v h2
    rw [Nat.zero_add] at h3
    have h4 := h1.2.2 (i, ix_v ad v) (by rw [ix_args_map]; exact List.mem_map.mpr ⟨(i, v), h3, rfl⟩)
    exact h4
/-- a method's body stands as the tables say -/
theorem ix_bodyX {mid : Nat} (hV : ix_V P = true) (hmid : (ix_MT P)[mid]? = some mi) (hex : p.tables.exec = Jvm.exec) (hcb : c.code = mi.2.2.1) (hml : c.maxLocals = mi.2.2.2.1) (hret : meth.sig.returnType = mi.2.2.2.2.1) (hlk : meth.locks = false) (hfc : s.vm.findClass mi.1.cls = some m.cls) (hnm : meth.name = mi.1.name) (hts : ∀ w ∈ ix_WL P, w.before args s = true)
    (hK : va_K D (ix_CL P) (ix_ty P cA) s) (hA : ∀ q, s.heap.size ≤ q → A q) (hO : ix_O P ad A ro s) : ∃ own, ix_X P mi own D ad cA A ro p s m args meth c := by
  have h1 := ix_mM hV (List.mem_of_getElem? hmid)
  unfold ix_vM at h1
  split at h1
  · next own hown =>
    simp only [Bool.and_eq_true, decide_eq_true_eq, Bool.or_eq_true, Bool.not_eq_true', beq_iff_eq] at h1
    obtain ⟨⟨⟨⟨g1, g2⟩, g3⟩, g4⟩, g5⟩ := h1
    refine ⟨own, hex, hcb, hml, hret, hlk, hown, by rw [← g1]; exact hfc, fun hi => ?_, hK, hts, hV, hA, hO⟩
    rcases g4 with g4 | g4
    · rw [hi] at g4
      cases g4
    · rw [hnm, g4]
  · cases h1

end IXH
