/-! THE LAW'S START out of a run of the small machine (first the starting text's head). -/
def R_law : String := "SkylightWashLaw"
def lw_P (b : Addr) (xs : List Int32) (args : Array Value) (s : State) : Prop := args = #[.ref b] ∧ s.IntsAt b xs ∧ xs.length ≤ 260 ∧ (Jvm.Cond.and given_1 narrow_1).before args s = true
/-- what a walk over the start with the record d0 says of its end, said of the start itself -/
theorem lw_closed {s t : State} {o : Outcome} {d0 : Drawn} {L : List Loc} {k n : Nat} (hd0 : s.drawn.sameBut d0 lw_cs) (hv : ∃ v, o = .returned v) (hW : (s.setDrawn d0).WarmedH t.vm) (hs : (s.setDrawn d0).sameButNew ({ t with vm := s.vm } : State) L k n) : State.butDraws s t lw_cs (fun t1 => Framed s o t1 L k n) := by
  have h2 : t.drawn = d0 := congrArg State.drawn hs.1
  refine ⟨⟨hv, hW, State.sameButNew.setDrawn hs s.drawn⟩, ?_, by decide⟩
  rw [h2]
  exact hd0
def lw_Q (_ : Array Value) (s : State) (o : Outcome) (t : State) : Prop := o = .returned (some (.int 1)) ∧ State.butDraws s t lw_cs (fun t1 => Framed s o t1 [] room_1.cells room_1.slots)
def lw_Z (below : List Frame) (a : Array Value) (s : State) : State → Prop := fun t => ∃ o, t.status = .running ∧ Ended t below o ∧ lw_Q a s o t
/-- the law's own end, with 1 on the stack, nothing written that was there before, its room as the claim has it; d0: the record of draws at this point (at the entry s.drawn: begin with 'refine W.base ?_' and 'have hd0 := Drawn.sameBut.refl s.drawn lw_cs') -/
theorem lw_ret {p : Program} {l : Launch} {e : Env} {s : State} {m : MethodId} {below : List Frame} {meth : Method} {c : Code} {b : Nat} {d0 : Drawn} (hd0 : s.drawn.sameBut d0 lw_cs) (hx : p.tables.exec = Jvm.exec) (hb : c.code = code) (hr : meth.sig.returnType = ret) (hlocks : meth.locks = false) {pc : Nat} {H : Heap} {ls : Array Slot} (hdg : decode code pc = .ok (.ireturn, 1)) : W p l e room_1 (s.setDrawn d0) m #[Value.ref b] below meth c H [] room_1.cells room_1.slots (lw_Z below #[Value.ref b] s) (F0 m pc ls [.int 1]) := by
  intro T hT X
  obtain ⟨fs, hret, hrun, hended, hW, hframe⟩ := X.leave (v := some (.int 1)) (hlocks := hlocks) (fun h => by rw [hr] at h; cases h)
  have hmeth' : T.vm.method? m = some meth := X.method'
  refine ⟨T.setFrames fs, ?_, .returned (some (.int 1)), hrun, hended, rfl, lw_closed hd0 ⟨_, rfl⟩ hW hframe⟩
  jvm_step X.here [X.here.top, hx, hb, hdg, hmeth', hr, ret, narrow_b1]
  (try refine ⟨rfl, ?_⟩); (try refine ⟨rfl, ?_⟩)
  first | (intro acts; rw [hret _ acts rfl rfl rfl]) | rw [hret _ _ rfl rfl rfl]
  exact Steps.refl _
/-- what holds at the law's entry: the machine, the code, the tables' words (any of lw_tbl by 'hts w (by decide +kernel)'), the script of L ints xs at the cell b, what the Statement gives of the start (any of its parts by flat_of_before) -/
def lw_At (p : Program) (s : State) (m : MethodId) (meth : Method) (c : Code) (b L : Nat) (xs : Nat → Int32) : Prop :=
  p.tables.exec = Jvm.exec ∧ c.code = code ∧ meth.sig.returnType = ret ∧ c.maxLocals = 32 ∧ s.vm.findClass R_law = some m.cls ∧ (∀ w ∈ lw_tbl, w.before #[Value.ref b] s = true) ∧ va_X b L xs s s.heap ∧ b < s.heap.size ∧ meth.locks = false ∧ (Jvm.Cond.and given_1 narrow_1).before #[Value.ref b] s = true
section IXH
variable {P : ix_P} {mi : ix_M} {own : String} {D : va_G} {ad0 : Nat → Nat} {cA : Nat → ClassId} {A : Nat → Prop} {ro : ix_H} {p : Program} {l : Launch} {e : Env} {R : Room} {s : State} {m : MethodId} {args : Array Value} {below : List Frame} {meth : Method} {c : Code} {Q : State → Prop} {n0 s0 pc pc' len nL : Nat} {lv lv' : ix_L} {st st' : List Value} {h h' : ix_H} {ad : Nat → Nat} {H H1 : Heap} {locs locs1 : List Loc} {ls : Array Slot} {Qc : Array Value → State → Outcome → State → Prop} {XC : String → State → State → Prop}
theorem ix_path0 {N mid d : Nat} {r : Option Value ⊕ Nat} {hE : ix_H} (hC : ∀ n, n < N → ix_CC P l n ∧ ix_CX P l n) (X : ix_X P mi own D ad0 cA A ro p s m args meth c) (hV2 : ix_V2 P = true) (hmid : (ix_MT P)[mid]? = some mi) (hno : ∀ pc, ix_fd mid pc (ix_HT P) = none)
    (hR : hE.length - n0 ≤ R.cells ∧ ix_sz hE - s0 ≤ R.slots ∧ d + 9 ≤ R.frames ∧ 60 * (d + 4) ≤ R.locals)
    (K : ∀ (pc : Nat) (lv : ix_L) (st : List Value) (h : ix_H) (ins : Instr) (len : Nat), decode mi.2.2.1 pc = .ok (ins, len) → (ix_tw P mid pc st h ins = some (r, hE) ∨ ix_s1 P mi pc lv st h len ins = some (.inr (r, hE))) → ix_W P D ad0 cA A ro p l e R s m args below meth c Q n0 s0 mi.2.2.2.1 pc lv st h) :
    ∀ (n : Nat), n ≤ N → ∀ (pc : Nat) (lv : ix_L) (st : List Value) (h : ix_H), ix_ex P n d mid pc lv st h = some (r, hE) → ix_W P D ad0 cA A ro p l e R s m args below meth c Q n0 s0 mi.2.2.2.1 pc lv st h
  | 0, _, _, _, _, _, q => by cases q
  | n + 1, hn, pc, lv, st, h, q => by
    have hV := X.2.2.2.2.2.2.2.2.2.2.1
    unfold ix_ex at q
    rw [hmid] at q
    simp only at q
    split at q
    · cases q
    · next ins len hdc =>
      have hd := ix_dec hV (List.mem_of_getElem? hmid) hdc
      split at q
      · next r0 hr0 =>
        cases q
        exact K pc lv st h ins len hd (Or.inl hr0)
      · split at q
        · next kx me as rest hcl =>
          split at q
          · cases q
          · next d' =>
            split at q
            · next v h1 hrun =>
              have hg := ix_ex_gm _ _ _ _ _ _ _ _ _ q
              exact ix_call X hd hcl (hC n hn).1 hrun ⟨by have := hg.1; omega, by have := hg.2; omega, by omega, by omega⟩ (ix_path0 hC X hV2 hmid hno hR K n (Nat.le_of_succ_le hn) _ _ _ _ q)
            · next x h1 hrun =>
              split at q
              · next pc' lv' hca =>
                unfold ix_ca at hca
                rw [hno] at hca
                cases hca
              · cases q
            · cases q
        · split at q
          · next pc' lv' st' h1 hs1 =>
            have hg := ix_ex_gm _ _ _ _ _ _ _ _ _ q
            exact ix_step X hd hs1 ⟨by have := hg.1; omega, by have := hg.2; omega, by omega, by omega⟩ (ix_path0 hC X hV2 hmid hno hR K n (Nat.le_of_succ_le hn) _ _ _ _ q)
          · next r0 hs1 =>
            cases q
            exact K pc lv st h ins len hd (Or.inr hs1)
          · cases q
end IXH
theorem ixs_ret {ty : FieldType} (h : ret = some ty) : ty = .boolean := by
  unfold ret at h
  cases h
  rfl
theorem ixs_st {l : Launch} (h : l.flags = flags0) : l.stackTraces = false := by
  have := h
  first
    | exact congrArg Flags.stackTraces h
    | (unfold Launch.stackTraces; rw [h]; rfl)
    | (cases h; rfl)
theorem ixs_start {p : Program} {e : Env} {s : State} {m : MethodId} {below : List Frame} {meth : Method} {c : Code} (l : Launch) (hflags : l.flags = flags0) {b L : Nat} {xs : Nat → Int32} (C0 : lw_At p s m meth c b L xs) (hrun : ∀ fv : Value, (fv = .null ∨ fv = .ref 97) → ∃ h' : ix_H, xe (ixP fv) 1300 0 0 (ix_en 32 [.ref 0]) [] (ixRO L xs) = some (.inl (some (.int 1)), h') ∧ h'.length - 98 ≤ 100000 ∧ ix_sz h' - ix_sz (ixRO L xs) ≤ 4000000) : W p l e room_1 s m #[Value.ref b] below meth c s.heap [] 0 0 (lw_Z below #[Value.ref b] s) (entryFrame m ([Value.ref b] : List Value).toArray 32) := by
  obtain ⟨hx, hb, hr, hml, hown, hts, hX, hbl, hlocks, hgv⟩ := C0
  have hts2 := ixw_xs hts
  obtain ⟨fv, ad, hfv, had, hO⟩ := ixs_O hts2 (fun w hw => flat_of_before _ hgv w hw) hX hbl
  obtain ⟨D, cA, hK⟩ := ixs_K fv hts2
  obtain ⟨h', hxe, hcells0, hslots0⟩ := hrun fv hfv
  have hcells : h'.length - 98 ≤ room_1.cells := Nat.le_trans hcells0 (by decide)
  have hslots : ix_sz h' - ix_sz (ixRO L xs) ≤ room_1.slots := Nat.le_trans hslots0 (by decide)
  obtain ⟨n, hn⟩ := xe_iff.mp hxe
  have hmid : (ix_MT (ixP fv))[0]? = some ixM0 := rfl
  have hV2 := ixo_V2 fv
  have hl : l.stackTraces = false := by
    exact ixs_st hflags
  have hC : ∀ k, k < n → ix_CC (ixP fv) l k ∧ ix_CX (ixP fv) l k := ix_every hl hV2 n
  have X : ix_X (ixP fv) ixM0 R_law D ad cA (fun q => s.heap.size ≤ q) (ixRO L xs) p s m #[Value.ref b] meth c := ⟨hx, hb, hml, hr, hlocks, rfl, hown, fun h => (by cases h), hK, fun w hw => hts2 w (ixo_in fv w hw), ixo_V fv, fun q h => h, hO⟩
  have hlen := ixs_len L xs
  have hI : ix_I (ixP fv) D ad cA (fun q => s.heap.size ≤ q) (ixRO L xs) s 98 (ix_sz (ixRO L xs)) ad (ixRO L xs) s.heap [] := by
    have hw : ix_w ad cA (ix_NR (ixP fv)) (ixRO L xs) = [] := by
      unfold ix_w
      rw [show (ixRO L xs).drop (ix_NR (ixP fv)) = [] from List.drop_eq_nil_of_le (Nat.le_of_eq hlen)]
      rfl
    refine ⟨?_, ?_, va_S.rf, fun _ _ => rfl, List.take_of_length_le (Nat.le_of_eq hlen), Nat.le_refl _, Nat.le_of_eq hlen.symm, Nat.le_refl _⟩
    · rw [hw]
      intro k q h
      cases h
    · rw [hw]
      exact ⟨fun i j p q h => (by cases h), fun k q h => (by cases h)⟩
  rw [lg_entry_eq]
  have hwf : ix_wf (ixRO L xs) (ix_en 32 [.ref 0]) [] := by
    refine ⟨fun v hv => ?_, fun v hv => (by cases hv), ?_⟩
    · rw [hlen]
      simp [ix_en, ix_sl, Value.category] at hv
      subst hv
      show (0 : Nat) < 98
      decide
    · rw [hlen]
      exact hO.2.2.2.2
  have hE := ix_LR.entry (ad := ad) (n := 32) (vs := [.ref 0]) (by decide)
  have hv1 : ([Value.ref 0].map (ix_v ad)) = [Value.ref b] := by
    show [Value.ref (ad 0)] = _
    rw [had]
  rw [hv1] at hE
  refine (ix_path0 (R := room_1) (Q := lw_Z below #[Value.ref b] s) hC X hV2 hmid (fun pc => ?_) ⟨hcells, hslots, by decide, by decide⟩ ?_ n (Nat.le_refl _) 0 (ix_en 32 [.ref 0]) [] (ixRO L xs) hn).at hI hE hwf rfl (by rw [hlen]) (Nat.sub_self _).symm
  · rfl
  · intro pc lv st h2 ins len hd hq
    rcases hq with hq | hq
    · obtain ⟨ci, hci⟩ := ix_tw_inr hq
      cases hci
    · obtain rfl := ix_s1_end hq
      obtain ⟨rfl, hcase⟩ := ix_s1_ret hq
      intro ad2 H locs ls hI2 hL2 hw2
      have hf : ∀ q ∈ locs, s.heap.size ≤ q.base := hI2.2.2.1.2.2
      rcases hcase with ⟨-, -, hret, -⟩ | ⟨ty, w9, hret, rfl, hft, hr1, hk⟩
      · cases hret
      · cases hr1
        have hty : ty = .boolean := by
          have h1 : ret = some ty := hret
          exact ixs_ret h1
        subst hty
        rcases hk with ⟨rfl, -⟩ | ⟨-, hk⟩ | ⟨-, hk⟩ | ⟨-, hk⟩
        · refine va_forget hf (W.widen hcells hslots ?_)
          exact lw_ret (Drawn.sameBut.refl s.drawn lw_cs) hx hb hr hlocks hd
        · cases hk
        · cases hk
        · cases hk
