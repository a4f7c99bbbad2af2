/-! new int[n][k]. -/
section IXH
variable {P : ix_P} {mi : ix_M} {own : String} {D : va_G} {ad0 : Nat → Nat} {cA : Nat → ClassId} {A : Nat → Prop} {ro : ix_H} {p : Program} {l : Launch} {e : Env} {R : Room} {s : State} {m : MethodId} {args : Array Value} {below : List Frame} {meth : Method} {c : Code} {Q : State → Prop} {n0 s0 pc pc' len nL : Nat} {lv lv' : ix_L} {st st' : List Value} {h h' : ix_H} {ad : Nat → Nat} {H H1 : Heap} {locs locs1 : List Loc} {ls : Array Slot}
/-- addresses from b on behind place n -/
def ix_uq (ad : Nat → Nat) (n b : Nat) : Nat → Nat := fun k => if k < n then ad k else b + (k - n)
theorem ix_uq_lt {n b k : Nat} (hk : k < n) : ix_uq ad n b k = ad k := if_pos hk
theorem ix_uq_ge {n b j : Nat} : ix_uq ad n b (n + j) = b + j := by
  unfold ix_uq
  rw [if_neg (by omega)]
  congr 1
  omega
theorem ix_w_app {b nr : Nat} {h cs : ix_H} (hn : nr ≤ h.length) (hw : ∀ x ∈ h, ix_wc h.length x) : ix_w (ix_uq ad h.length b) cA nr (h ++ cs) = ix_w ad cA nr h ++ cs.mapIdx (fun j x => (b + j, ix_c (ix_uq ad h.length b) cA x)) := by
  have e0 : ix_w (ix_uq ad h.length b) cA nr h = ix_w ad cA nr h := ix_w_ad (fun k hk => ix_uq_lt hk) hw
  rw [← e0]
  unfold ix_w
  rw [List.drop_append_of_le_length hn, List.mapIdx_append]
  congr 1
  apply List.ext_getElem?
  intro j
  rw [List.getElem?_mapIdx, List.getElem?_mapIdx]
  cases cs[j]? with
  | none => rfl
  | some x =>
    have e1 : nr + (j + (h.drop nr).length) = h.length + j := by
      rw [List.length_drop]
      omega
    simp only [Option.map_some, e1, ix_uq_ge]
theorem ix_rep_sum (k : Nat) : ∀ n : Nat, (List.replicate n k).sum = n * k
  | 0 => by simp
  | n + 1 => by rw [List.replicate_succ, List.sum_cons, ix_rep_sum k n, Nat.succ_mul, Nat.add_comm]
theorem ix_gr_sz (q n k : Nat) : ix_sz (ix_gr q n k) = n + n * k := by
  simp [ix_gr, ix_sz, ix_cs, List.map_replicate, ix_rep_sum]
theorem ix_sz_app (a b : ix_H) : ix_sz (a ++ b) = ix_sz a + ix_sz b := by simp [ix_sz]
theorem ix_gr_len (q n k : Nat) : (ix_gr q n k).length = n + 1 := by simp [ix_gr]
theorem ix_outer (c : ClassId) (N h0 : Nat) : ∀ i : Nat, Jvm.Free.Multi.outerC c N h0 i = arrV c N (fun j => va_rf (if j < i then some (h0 + 1 + j) else none))
  | 0 => by
    show ({ cls := c, slots := Array.replicate N .null, vm := .none } : Cell) = _
    rw [arrV_new]
    refine congrArg (arrV c N) (funext fun j => ?_)
    simp [va_rf]
  | i + 1 => by
    show (Jvm.Free.Multi.outerC c N h0 i).setSlot i (.ref (h0 + 1 + i)) = _
    rw [ix_outer c N h0 i, arrV_store]
    refine congrArg (arrV c N) (funext fun j => ?_)
    by_cases e : j = i
    · subst e
      simp [updV, va_rf]
    · by_cases h : j < i
      · simp [updV, e, h, Nat.lt_succ_of_lt h]
      · simp [updV, e, h, show ¬ j < i + 1 by omega]

theorem ix_p_multianewarray {i dims : Nat} (X : ix_X P mi own D ad0 cA A ro p s m args meth c) (hd : decode mi.2.2.1 pc = .ok (.multianewarray i dims, len)) (q : ix_s1 P mi pc lv st h len (.multianewarray i dims) = some (.inl (pc', lv', st', h'))) (hR : h'.length - n0 ≤ R.cells ∧ ix_sz h' - s0 ≤ R.slots ∧ 1 ≤ R.frames ∧ 60 ≤ R.locals) (k : ix_W P D ad0 cA A ro p l e R s m args below meth c Q n0 s0 mi.2.2.2.1 pc' lv' st' h') : ix_W P D ad0 cA A ro p l e R s m args below meth c Q n0 s0 mi.2.2.2.1 pc lv st h := by
  obtain ⟨hx, hb, hml, hr, hlocks, hon, hown, hini, hK, hts, hV, hA, hO⟩ := X
  obtain ⟨ht0, ht1, ht2, ht3, ht5⟩ := ix_ty0 hV
  simp only [ix_s1] at q
  split at q
  · next hlen =>
    obtain ⟨rfl, rfl, hx0⟩ := hlen
    obtain ⟨n, kk, r, rfl, q2⟩ := ix_ii_eq q
    split at q2
    · next hc =>
      obtain ⟨rfl, rfl, rfl, rfl⟩ := ix_go_eq q2
      obtain ⟨hn0, hnb⟩ := ix_big_eq hc.1
      obtain ⟨hk0, hkb⟩ := ix_big_eq hc.2
      have hw1 := ix_wAin (ix_fd_mem hx0)
      unfold ix_wA at hw1
      simp only at hw1
      rw [hon] at hw1
      have hcl : (Cond.classLink own i ("[" ++ (FieldType.array .int).toString)).before args s = true := hts _ (hw1 (.classLink own i "[[I") (by simp))
      have hao : (Cond.arrayOver (.array .int)).before args s = true := hts _ (ix_wTin (List.mem_of_getElem? ht5) (List.mem_singleton.mpr rfl))
      have hac : (Cond.arrayClass .int).before args s = true := hts _ (ix_wTin (List.mem_of_getElem? ht0) (List.mem_singleton.mpr rfl))
      intro ad H locs ls hI hL hw
      obtain ⟨hR1, hR2, -, -⟩ := hR
      rw [List.length_append, ix_gr_len] at hR1
      rw [ix_sz_app, ix_gr_sz] at hR2
      have hn9 := hI.2.2.2.2.2.2
      intro T hT Xs
      obtain ⟨vm₁, cA1, comp, -, fA, fC, hO1, -, X', step⟩ := Xs.multianewarray2F hx hown hcl hao hac (g := F0 m pc ls (.int kk :: .int n :: r.map (ix_v ad))) rfl (by rw [hb]; exact hd) rfl hn0 hk0 (by omega) (by show _ * 4 ≤ _; omega) (by omega) rfl rfl (by omega) (by omega)
      have h9 : s.vm.findClass ("[" ++ (FieldType.array .int).toString) = some (cA 5) := (hK.2 5 _ (ix_ty_get ht5)).2
      have h8 : s.vm.findClass ("[" ++ FieldType.int.toString) = some (cA 0) := (hK.2 0 _ (ix_ty_get ht0)).2
      obtain rfl : cA 5 = cA1 := Option.some.inj (h9.symm.trans fA)
      obtain rfl : cA 0 = comp := Option.some.inj (h8.symm.trans fC)
      generalize hF : Jvm.Free.Multi.fill (T.setVm vm₁) (cA 5) (cA 0) n.toNatClampNeg kk.toNatClampNeg (defaultValue .int) n.toNatClampNeg = F at X' step
      have hTh : (T.setVm vm₁).heap = H := hT
      obtain ⟨f1, f2, -, -⟩ := Jvm.Free.Multi.fill_facts (T.setVm vm₁) (cA 5) (cA 0) n.toNatClampNeg kk.toNatClampNeg (defaultValue .int) n.toNatClampNeg
      rw [hF, hTh] at f1 f2
      have hold : ∀ x : Nat, x < H.size → F.heap[x]? = H[x]? := fun x hx => by
        have := Jvm.Free.Multi.fill_old (T.setVm vm₁) (cA 5) (cA 0) n.toNatClampNeg kk.toNatClampNeg (defaultValue .int) (a := x) (by rw [hTh]; exact hx) n.toNatClampNeg
        rw [hF, hTh] at this
        exact this
      have hrow : ∀ j : Nat, j < n.toNatClampNeg → F.heap[H.size + 1 + j]? = some (vp_cell (cA 0) (kk.toNatClampNeg, .inl (fun _ => 0))) := fun j hj => by
        have := Jvm.Free.Multi.fill_inner (T.setVm vm₁) (cA 5) (cA 0) n.toNatClampNeg kk.toNatClampNeg (defaultValue .int) n.toNatClampNeg j hj
        rw [hF, hTh] at this
        rw [this, vp_cell_i, ← arrV_new]
        rfl
      rw [ix_outer] at f2
      have hw2 := hw.pop.pop
      have hn : ix_NR P ≤ h.length := Nat.le_trans hI.2.2.2.2.2.1 hn9.1
      have hnew : ∀ (k9 : Nat) (x : Nat × va_E), ((ix_gr h.length n.toNatClampNeg kk.toNatClampNeg).mapIdx (fun j x => (H.size + j, ix_c (ix_uq ad h.length H.size) cA x)))[k9]? = some x → x.1 = H.size + k9 ∧ va_at D (ix_CL P) x F.heap := fun k9 x hx => by
        rw [List.getElem?_mapIdx] at hx
        cases k9 with
        | zero =>
          cases hx
          refine ⟨rfl, ?_⟩
          show F.heap[H.size + 0]? = some (vp_cell (cA 5) (n.toNatClampNeg, .inr (.inr (.inr (.inr (fun j => (if j < n.toNatClampNeg then some (h.length + 1 + j) else none : Option Nat).map (ix_uq ad h.length H.size)))))))
          rw [vp_cell_q, Nat.add_zero, f2]
          refine congrArg some (congrArg (arrV (cA 5) n.toNatClampNeg) (funext fun j => ?_))
          by_cases hj : j < n.toNatClampNeg
          · rw [if_pos hj, if_pos hj]
            show _ = va_rf (some (ix_uq ad h.length H.size (h.length + 1 + j)))
            rw [Nat.add_assoc h.length, ix_uq_ge, Nat.add_assoc]
          · rw [if_neg hj, if_neg hj]
            rfl
        | succ j =>
          have hx1 : ((List.replicate n.toNatClampNeg (.inl (0, kk.toNatClampNeg, .inl (fun _ => 0))) : ix_H)[j]?).map (fun x => (H.size + (j + 1), ix_c (ix_uq ad h.length H.size) cA x)) = some x := hx
          rw [List.getElem?_replicate] at hx1
          split at hx1
          · next hj =>
            cases hx1
            refine ⟨rfl, ?_⟩
            show F.heap[H.size + (j + 1)]? = _
            rw [show H.size + (j + 1) = H.size + 1 + j by omega]
            exact hrow j hj
          · cases hx1
      have hP1 : va_P D (ix_CL P) (ix_w (ix_uq ad h.length H.size) cA (ix_NR P) (h ++ ix_gr h.length n.toNatClampNeg kk.toNatClampNeg)) F.heap := by
        rw [ix_w_app hn hw2.2.2]
        exact (hI.1.kept (fun k9 x hx => hold x.1 ((hI.1 k9 x hx).lt))).app (fun k9 x hx => (hnew k9 x hx).2)
      have hD1 : va_D A (ix_w (ix_uq ad h.length H.size) cA (ix_NR P) (h ++ ix_gr h.length n.toNatClampNeg kk.toNatClampNeg)) := by
        rw [ix_w_app hn hw2.2.2]
        refine va_D.app hI.2.1 ⟨fun i j x y hi hj hxy => ?_, fun k9 x hx => ?_⟩ (fun i j x y hi hj hxy => ?_)
        · have := (hnew i x hi).1
          have := (hnew j y hj).1
          omega
        · rw [(hnew k9 x hx).1]
          exact hA _ (by have := hI.2.2.1.1; omega)
        · have h1 := (hI.1 i x hi).lt
          have h2 := (hnew j y hj).1
          omega
      have hS1 : va_S A s.heap F.heap locs := ⟨by rw [f1]; have := hI.2.2.1.1; omega, fun x h1 h2 => (hold x (Nat.lt_of_lt_of_le h1 hI.2.2.1.1)).trans (hI.2.2.1.2.1 x h1 h2), hI.2.2.1.2.2⟩
      have hI1 : ix_I P D ad0 cA A ro s n0 s0 (ix_uq ad h.length H.size) (h ++ ix_gr h.length n.toNatClampNeg kk.toNatClampNeg) F.heap locs := by
        refine ⟨hP1, hD1, hS1, fun k9 hk9 => (ix_uq_lt (Nat.lt_of_lt_of_le hk9 hn9.1)).trans (hI.2.2.2.1 k9 hk9), ?_, hI.2.2.2.2.2.1, by rw [List.length_append]; omega, by rw [ix_sz_app]; omega⟩
        rw [List.take_append_of_le_length hn]
        exact hI.2.2.2.2.1
      have hwf : ix_wf (h ++ ix_gr h.length n.toNatClampNeg kk.toNatClampNeg) lv' (.ref h.length :: r) := by
        refine (hw2.app (fun x hx => ?_)).push (by show h.length < _; rw [List.length_append, ix_gr_len]; omega)
        rw [ix_gr_len]
        rcases List.mem_cons.mp hx with rfl | hx
        · intro j z hz
          replace hz : (if j < n.toNatClampNeg then some (h.length + 1 + j) else none) = some z := hz
          split at hz
          · cases hz
            omega
          · cases hz
        · rw [List.eq_of_mem_replicate hx]
          exact fun q => by cases q
      have hW := (k.at (cells := h.length - n0 + 1 + n.toNatClampNeg) (slots := ix_sz h - s0 + n.toNatClampNeg + n.toNatClampNeg * kk.toNatClampNeg) hI1 (hL.ad (fun k9 hk9 => ix_uq_lt hk9) hw.1) hwf (st9 := .ref H.size :: r.map (ix_v ad)) (by
        rw [List.map_cons, ix_vs_ad (fun k9 hk9 => ix_uq_lt hk9) hw2.2.1]
        show Value.ref (ix_uq ad h.length H.size (h.length + 0)) :: _ = _
        rw [ix_uq_ge, Nat.add_zero]) (by rw [List.length_append, ix_gr_len]; omega) (by rw [ix_sz_app, ix_gr_sz]; omega))
      obtain ⟨t, a1, b1⟩ := hW F rfl X'
      refine ⟨t, step t ?_, b1⟩
      have e : T.heap.size = H.size := by rw [hT]
      rw [e]
      exact a1
    · cases q2
  · cases q
end IXH
